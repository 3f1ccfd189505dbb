abbrev Y_X1_init : YC := (yX1_init, cX1_init, 1, none)
abbrev Y_X1_append : YC := (yX1_append, cX1_append, 2, none)
abbrev Y_X1_rewind : YC := (yX1_rewind, cX1_rewind, 1, none)
abbrev Y_X1_findFault : YC := (yX1_findFault, cX1_findFault, 2, some FieldType.int)
abbrev Y_X1_readCommand : YC := (yX1_readCommand, cX1_readCommand, 1, some FieldType.boolean)
abbrev Y_X1_readWord : YC := (yX1_readWord, cX1_readWord, 3, some (FieldType.object "ZeroParts$Word"))
abbrev Y_X1_wordBetween : YC := (yX1_wordBetween, cX1_wordBetween, 4, some (FieldType.object "ZeroParts$Word"))
abbrev Y_X1_standsBetween : YC := (yX1_standsBetween, cX1_standsBetween, 5, some FieldType.boolean)
abbrev Y_X1_readNumbers : YC := (yX1_readNumbers, cX1_readNumbers, 2, some FieldType.boolean)
abbrev Y_X1_readNumber : YC := (yX1_readNumber, cX1_readNumber, 2, some FieldType.int)
abbrev Y_X1_readSemicolon : YC := (yX1_readSemicolon, cX1_readSemicolon, 1, some FieldType.boolean)
abbrev Y_X1_skipSpaces : YC := (yX1_skipSpaces, cX1_skipSpaces, 1, none)
abbrev Y_X1_failAt : YC := (yX1_failAt, cX1_failAt, 2, none)
abbrev Y_X1_peek : YC := (yX1_peek, cX1_peek, 1, some FieldType.int)
abbrev Y_X1_isLetter : YC := (yX1_isLetter, cX1_isLetter, 1, some FieldType.boolean)
abbrev Y_X1_isDigit : YC := (yX1_isDigit, cX1_isDigit, 1, some FieldType.boolean)
abbrev Y_X2_init : YC := (yX2_init, cX2_init, 1, none)
abbrev Y_X2_become : YC := (yX2_become, cX2_become, 3, none)
abbrev Y_X2_count : YC := (yX2_count, cX2_count, 1, some FieldType.int)
abbrev Y_X2_has : YC := (yX2_has, cX2_has, 2, some FieldType.boolean)
abbrev Y_X2_plus : YC := (yX2_plus, cX2_plus, 5, some FieldType.int)
abbrev Y_X2_opposite : YC := (yX2_opposite, cX2_opposite, 4, some FieldType.int)
abbrev Y_X2_orderOf : YC := (yX2_orderOf, cX2_orderOf, 4, some FieldType.int)
abbrev Y_X2_commonDivisor : YC := (yX2_commonDivisor, cX2_commonDivisor, 3, some FieldType.int)
abbrev Y_X2_exponent : YC := (yX2_exponent, cX2_exponent, 1, some FieldType.int)
abbrev Y_X2_reachedWith : YC := (yX2_reachedWith, cX2_reachedWith, 7, some FieldType.long)
abbrev Y_X2_lowestFree : YC := (yX2_lowestFree, cX2_lowestFree, 4, some FieldType.int)
abbrev Y_X2_remainder : YC := (yX2_remainder, cX2_remainder, 2, some FieldType.int)
abbrev Y_X2_quotient : YC := (yX2_quotient, cX2_quotient, 2, some FieldType.int)
abbrev Y_X3_init : YC := (yX3_init, cX3_init, 2, none)
abbrev Y_X3_keep : YC := (yX3_keep, cX3_keep, 2, none)
abbrev Y_X3_bringBack : YC := (yX3_bringBack, cX3_bringBack, 2, none)
abbrev Y_X3_dropOldest : YC := (yX3_dropOldest, cX3_dropOldest, 3, none)
abbrev Y_X4_init : YC := (yX4_init, cX4_init, 1, none)
abbrev Y_X4_copyFrom : YC := (yX4_copyFrom, cX4_copyFrom, 3, none)
abbrev Y_X4_restart : YC := (yX4_restart, cX4_restart, 3, none)
abbrev Y_X4_isFull : YC := (yX4_isFull, cX4_isFull, 1, some FieldType.boolean)
abbrev Y_X4_hasPlace : YC := (yX4_hasPlace, cX4_hasPlace, 2, some FieldType.boolean)
abbrev Y_X4_allPlaces : YC := (yX4_allPlaces, cX4_allPlaces, 1, some FieldType.int)
abbrev Y_X4_hasPlaces : YC := (yX4_hasPlaces, cX4_hasPlaces, 2, some FieldType.boolean)
abbrev Y_X4_append : YC := (yX4_append, cX4_append, 2, none)
abbrev Y_X4_takeOut : YC := (yX4_takeOut, cX4_takeOut, 4, some FieldType.int)
abbrev Y_X4_timesOf : YC := (yX4_timesOf, cX4_timesOf, 5, some FieldType.int)
abbrev Y_X4_placesOf : YC := (yX4_placesOf, cX4_placesOf, 4, some FieldType.int)
abbrev Y_X4_layPlaces : YC := (yX4_layPlaces, cX4_layPlaces, 4, none)
abbrev Y_X4_takesFirstOnes : YC := (yX4_takesFirstOnes, cX4_takesFirstOnes, 3, some FieldType.boolean)
abbrev Y_X4_skipsBefore : YC := (yX4_skipsBefore, cX4_skipsBefore, 4, some FieldType.boolean)
abbrev Y_X5_init : YC := (yX5_init, cX5_init, 1, none)
abbrev Y_X5_follow : YC := (yX5_follow, cX5_follow, 4, some (FieldType.object "ZeroParts$SetTable"))
abbrev Y_X5_totalOf : YC := (yX5_totalOf, cX5_totalOf, 2, some FieldType.int)
abbrev Y_X5_isBlock : YC := (yX5_isBlock, cX5_isBlock, 2, some FieldType.boolean)
abbrev Y_X5_blockOrNone : YC := (yX5_blockOrNone, cX5_blockOrNone, 2, some FieldType.int)
abbrev Y_X5_countBlocksIn : YC := (yX5_countBlocksIn, cX5_countBlocksIn, 4, some FieldType.int)
abbrev Y_X5_countBlocksAt : YC := (yX5_countBlocksAt, cX5_countBlocksAt, 4, some FieldType.int)
abbrev Y_X5_smallestBlock : YC := (yX5_smallestBlock, cX5_smallestBlock, 5, some FieldType.int)
abbrev Y_X5_greatestBlock : YC := (yX5_greatestBlock, cX5_greatestBlock, 3, some FieldType.int)
abbrev Y_X5_countFreeSets : YC := (yX5_countFreeSets, cX5_countFreeSets, 5, some FieldType.int)
abbrev Y_X5_lengthsOf : YC := (yX5_lengthsOf, cX5_lengthsOf, 2, some FieldType.int)
abbrev Y_X5_splitsOf : YC := (yX5_splitsOf, cX5_splitsOf, 2, some FieldType.int)
abbrev Y_X5_mostBlocks : YC := (yX5_mostBlocks, cX5_mostBlocks, 4, some FieldType.int)
abbrev Y_X5_firstBlockOfSplit : YC := (yX5_firstBlockOfSplit, cX5_firstBlockOfSplit, 6, some FieldType.int)
abbrev Y_X5_samePlaces : YC := (yX5_samePlaces, cX5_samePlaces, 4, some FieldType.int)
abbrev Y_X5_cutTo : YC := (yX5_cutTo, cX5_cutTo, 3, none)
abbrev Y_X5_tablePlace : YC := (yX5_tablePlace, cX5_tablePlace, 4, none)
abbrev Y_X5_kindOf : YC := (yX5_kindOf, cX5_kindOf, 3, some FieldType.int)
abbrev Y_X5_isSet : YC := (yX5_isSet, cX5_isSet, 1, some FieldType.boolean)
abbrev Y_X5_tableSplits : YC := (yX5_tableSplits, cX5_tableSplits, 3, none)
abbrev Y_X5_tableSplitsOf : YC := (yX5_tableSplitsOf, cX5_tableSplitsOf, 7, none)
abbrev Y_X7_init : YC := (yX7_init, cX7_init, 1, none)
abbrev Y_X7_begin : YC := (yX7_begin, cX7_begin, 3, some FieldType.int)
abbrev Y_X7_add : YC := (yX7_add, cX7_add, 2, some FieldType.int)
abbrev Y_X7_removeAt : YC := (yX7_removeAt, cX7_removeAt, 2, some FieldType.int)
abbrev Y_X7_lay : YC := (yX7_lay, cX7_lay, 4, some FieldType.int)
abbrev Y_X7_laySplit : YC := (yX7_laySplit, cX7_laySplit, 1, some FieldType.int)
abbrev Y_X7_sum : YC := (yX7_sum, cX7_sum, 3, some FieldType.int)
abbrev Y_X7_element : YC := (yX7_element, cX7_element, 3, some FieldType.int)
abbrev Y_X7_bound : YC := (yX7_bound, cX7_bound, 1, some FieldType.int)
abbrev Y_X7_at : YC := (yX7_at, cX7_at, 3, some FieldType.int)
abbrev Y_X7_set : YC := (yX7_set, cX7_set, 3, some FieldType.int)
abbrev Y_X7_block : YC := (yX7_block, cX7_block, 2, some FieldType.int)
abbrev Y_X7_part : YC := (yX7_part, cX7_part, 4, some FieldType.int)
abbrev Y_X7_whole : YC := (yX7_whole, cX7_whole, 2, some FieldType.int)
abbrev Y_X7_sums : YC := (yX7_sums, cX7_sums, 4, some FieldType.long)
abbrev Y_X7_cross : YC := (yX7_cross, cX7_cross, 4, some FieldType.double)
abbrev Y_X7_reason : YC := (yX7_reason, cX7_reason, 3, some FieldType.int)
abbrev Y_X7_freeElement : YC := (yX7_freeElement, cX7_freeElement, 1, some FieldType.int)
abbrev Y_X7_freeFor : YC := (yX7_freeFor, cX7_freeFor, 5, some FieldType.int)
abbrev Y_X7_blocksWith : YC := (yX7_blocksWith, cX7_blocksWith, 3, some FieldType.int)
abbrev Y_X7_alike : YC := (yX7_alike, cX7_alike, 5, some FieldType.int)
abbrev Y_X7_unlikeBlocks : YC := (yX7_unlikeBlocks, cX7_unlikeBlocks, 3, some FieldType.int)
abbrev Y_X7_type : YC := (yX7_type, cX7_type, 2, some FieldType.int)
abbrev Y_X7_clearCommands : YC := (yX7_clearCommands, cX7_clearCommands, 2, some FieldType.int)
abbrev Y_X7_runCommands : YC := (yX7_runCommands, cX7_runCommands, 3, some FieldType.int)
abbrev Y_X7_undo : YC := (yX7_undo, cX7_undo, 1, some FieldType.int)
abbrev Y_X7_digest : YC := (yX7_digest, cX7_digest, 4, some FieldType.long)
abbrev Y_X7_mixed : YC := (yX7_mixed, cX7_mixed, 4, some FieldType.long)
abbrev Y_X7_mixedWithPlaces : YC := (yX7_mixedWithPlaces, cX7_mixedWithPlaces, 7, some FieldType.long)
abbrev Y_X7_mixedWithParts : YC := (yX7_mixedWithParts, cX7_mixedWithParts, 7, some FieldType.long)
abbrev Y_X7_bitsOf : YC := (yX7_bitsOf, cX7_bitsOf, 7, some FieldType.long)
abbrev Y_X7_isModulus : YC := (yX7_isModulus, cX7_isModulus, 1, some FieldType.boolean)
abbrev Y_X7_isPart : YC := (yX7_isPart, cX7_isPart, 1, some FieldType.boolean)
abbrev Y_X7_contains : YC := (yX7_contains, cX7_contains, 3, some FieldType.boolean)
abbrev Y_X7_countLaidParts : YC := (yX7_countLaidParts, cX7_countLaidParts, 3, some FieldType.int)
abbrev Y_X7_countGoodParts : YC := (yX7_countGoodParts, cX7_countGoodParts, 3, some FieldType.int)
abbrev Y_X7_canLaySplit : YC := (yX7_canLaySplit, cX7_canLaySplit, 2, some FieldType.boolean)
abbrev Y_X7_laySplitNow : YC := (yX7_laySplitNow, cX7_laySplitNow, 5, some FieldType.int)
abbrev Y_X7_carryOut : YC := (yX7_carryOut, cX7_carryOut, 2, some FieldType.boolean)
abbrev Y_X7_runGroup : YC := (yX7_runGroup, cX7_runGroup, 3, some FieldType.boolean)
abbrev Y_X7_runAdd : YC := (yX7_runAdd, cX7_runAdd, 2, some FieldType.boolean)
abbrev Y_X7_runMinus : YC := (yX7_runMinus, cX7_runMinus, 2, some FieldType.boolean)
abbrev Y_X7_runLay : YC := (yX7_runLay, cX7_runLay, 3, some FieldType.boolean)
abbrev Y_X8_init : YC := (yX8_init, cX8_init, 1, none)
abbrev Y_X8_thrown : YC := (yX8_thrown, cX8_thrown, 1, some FieldType.int)
abbrev Y_X8_refused : YC := (yX8_refused, cX8_refused, 2, some FieldType.boolean)
abbrev Y_X8_within : YC := (yX8_within, cX8_within, 3, some FieldType.boolean)
abbrev Y_X8_saves : YC := (yX8_saves, cX8_saves, 2, none)
abbrev Y_X8_undo : YC := (yX8_undo, cX8_undo, 2, some FieldType.int)
abbrev Y_X8_size : YC := (yX8_size, cX8_size, 1, some FieldType.int)
abbrev Y_X8_isElement : YC := (yX8_isElement, cX8_isElement, 2, some FieldType.boolean)
abbrev Y_X8_plus : YC := (yX8_plus, cX8_plus, 4, some FieldType.int)
abbrev Y_X8_orderOf : YC := (yX8_orderOf, cX8_orderOf, 4, some FieldType.int)
abbrev Y_X8_lessOf : YC := (yX8_lessOf, cX8_lessOf, 3, some FieldType.int)
abbrev Y_X8_exponent : YC := (yX8_exponent, cX8_exponent, 4, some FieldType.int)
abbrev Y_X8_begin : YC := (yX8_begin, cX8_begin, 3, some FieldType.int)
abbrev Y_X8_sum : YC := (yX8_sum, cX8_sum, 3, some FieldType.int)
abbrev Y_X8_bound : YC := (yX8_bound, cX8_bound, 2, some FieldType.int)
abbrev Y_X8_isPlace : YC := (yX8_isPlace, cX8_isPlace, 2, some FieldType.boolean)
abbrev Y_X8_add : YC := (yX8_add, cX8_add, 3, some FieldType.int)
abbrev Y_X8_removeAt : YC := (yX8_removeAt, cX8_removeAt, 4, some FieldType.int)
abbrev Y_X8_lay : YC := (yX8_lay, cX8_lay, 4, some FieldType.int)
abbrev Y_X8_has : YC := (yX8_has, cX8_has, 2, some FieldType.boolean)
abbrev Y_X8_bits : YC := (yX8_bits, cX8_bits, 3, some FieldType.int)
abbrev Y_X8_looks : YC := (yX8_looks, cX8_looks, 6, none)
abbrev Y_X8_isBlock : YC := (yX8_isBlock, cX8_isBlock, 4, some FieldType.boolean)
abbrev Y_X8_isIn : YC := (yX8_isIn, cX8_isIn, 3, some FieldType.boolean)
abbrev Y_X8_splitsAll : YC := (yX8_splitsAll, cX8_splitsAll, 4, none)
abbrev Y_X8_most : YC := (yX8_most, cX8_most, 4, some FieldType.int)
abbrev Y_X8_all : YC := (yX8_all, cX8_all, 1, some FieldType.int)
abbrev Y_X8_laySplit : YC := (yX8_laySplit, cX8_laySplit, 7, some FieldType.int)
abbrev Y_X8_blocksIn : YC := (yX8_blocksIn, cX8_blocksIn, 4, some FieldType.int)
abbrev Y_X8_isSet : YC := (yX8_isSet, cX8_isSet, 2, some FieldType.boolean)
abbrev Y_X8_setTells : YC := (yX8_setTells, cX8_setTells, 3, some FieldType.int)
abbrev Y_X8_set : YC := (yX8_set, cX8_set, 3, some FieldType.int)
abbrev Y_X8_block : YC := (yX8_block, cX8_block, 4, some FieldType.int)
abbrev Y_X8_sumSet : YC := (yX8_sumSet, cX8_sumSet, 4, some FieldType.long)
abbrev Y_X8_sums : YC := (yX8_sums, cX8_sums, 1, some FieldType.long)
abbrev Y_X8_timesOf : YC := (yX8_timesOf, cX8_timesOf, 4, some FieldType.int)
abbrev Y_X8_element : YC := (yX8_element, cX8_element, 3, some FieldType.int)
abbrev Y_X8_blocksAt : YC := (yX8_blocksAt, cX8_blocksAt, 6, some FieldType.int)
abbrev Y_X8_at : YC := (yX8_at, cX8_at, 3, some FieldType.int)
abbrev Y_X8_partSet : YC := (yX8_partSet, cX8_partSet, 4, some FieldType.int)
abbrev Y_X8_part : YC := (yX8_part, cX8_part, 4, some FieldType.int)
abbrev Y_X8_blockSize : YC := (yX8_blockSize, cX8_blockSize, 5, some FieldType.int)
abbrev Y_X8_partsThat : YC := (yX8_partsThat, cX8_partsThat, 5, some FieldType.int)
abbrev Y_X8_sumMany : YC := (yX8_sumMany, cX8_sumMany, 5, some FieldType.int)
abbrev Y_X8_wholeTells : YC := (yX8_wholeTells, cX8_wholeTells, 2, some FieldType.int)
abbrev Y_X8_whole : YC := (yX8_whole, cX8_whole, 2, some FieldType.int)
abbrev Y_X8_cross : YC := (yX8_cross, cX8_cross, 4, some FieldType.double)
abbrev Y_X8_reason : YC := (yX8_reason, cX8_reason, 3, some FieldType.int)
abbrev Y_X8_with : YC := (yX8_with, cX8_with, 7, some FieldType.long)
abbrev Y_X8_freeBy : YC := (yX8_freeBy, cX8_freeBy, 4, some FieldType.int)
abbrev Y_X8_freeElement : YC := (yX8_freeElement, cX8_freeElement, 1, some FieldType.int)
abbrev Y_X8_freeFor : YC := (yX8_freeFor, cX8_freeFor, 5, some FieldType.int)
abbrev Y_X8_blocksWith : YC := (yX8_blocksWith, cX8_blocksWith, 5, some FieldType.int)
abbrev Y_X8_areAlike : YC := (yX8_areAlike, cX8_areAlike, 5, some FieldType.boolean)
abbrev Y_X8_alike : YC := (yX8_alike, cX8_alike, 3, some FieldType.int)
abbrev Y_X8_unlikeBlocks : YC := (yX8_unlikeBlocks, cX8_unlikeBlocks, 5, some FieldType.int)
abbrev Y_X8_type : YC := (yX8_type, cX8_type, 2, some FieldType.int)
abbrev Y_X8_clearCommands : YC := (yX8_clearCommands, cX8_clearCommands, 2, some FieldType.int)
abbrev Y_X8_here : YC := (yX8_here, cX8_here, 1, some FieldType.int)
abbrev Y_X8_skips : YC := (yX8_skips, cX8_skips, 1, none)
abbrev Y_X8_fails : YC := (yX8_fails, cX8_fails, 2, some FieldType.boolean)
abbrev Y_X8_reads : YC := (yX8_reads, cX8_reads, 8, some FieldType.boolean)
abbrev Y_X8_word : YC := (yX8_word, cX8_word, 2, some FieldType.int)
abbrev Y_X8_numbersOf : YC := (yX8_numbersOf, cX8_numbersOf, 1, some FieldType.int)
abbrev Y_X8_number : YC := (yX8_number, cX8_number, 3, some FieldType.boolean)
abbrev Y_X8_readsCommand : YC := (yX8_readsCommand, cX8_readsCommand, 3, some FieldType.boolean)
abbrev Y_X8_findsFault : YC := (yX8_findsFault, cX8_findsFault, 1, some FieldType.int)
abbrev Y_X8_does : YC := (yX8_does, cX8_does, 1, some FieldType.boolean)
abbrev Y_X8_runCommands : YC := (yX8_runCommands, cX8_runCommands, 3, some FieldType.int)
abbrev Y_X8_digest : YC := (yX8_digest, cX8_digest, 5, some FieldType.long)
abbrev Y_Jxe99ae_isNaN_b9ae7 : YC := (yJxe99ae_isNaN_b9ae7, cJxe99ae_isNaN_b9ae7, 2, some FieldType.boolean)
abbrev Y_Jxe99ae_doubleToLongBits_ccdee : YC := (yJxe99ae_doubleToLongBits_ccdee, cJxe99ae_doubleToLongBits_ccdee, 2, some FieldType.long)
abbrev Y_Jx29ce0_ordinal_8abf5 : YC := (yJx29ce0_ordinal_8abf5, cJx29ce0_ordinal_8abf5, 1, some FieldType.int)
abbrev Y_J6_bitCount_0f7a4 : YC := (yJ6_bitCount_0f7a4, cJ6_bitCount_0f7a4, 1, some FieldType.int)
abbrev Y_J13_bitCount_95d88 : YC := (yJ13_bitCount_95d88, cJ13_bitCount_95d88, 2, some FieldType.int)
abbrev Y_J9_max_7cf53 : YC := (yJ9_max_7cf53, cJ9_max_7cf53, 2, some FieldType.int)
abbrev Y_J9_min_7cf53 : YC := (yJ9_min_7cf53, cJ9_min_7cf53, 2, some FieldType.int)
abbrev Y_J0_length_8abf5 : YC := (yJ0_length_8abf5, cJ0_length_8abf5, 1, some FieldType.int)
abbrev Y_J0_charAt_5068e : YC := (yJ0_charAt_5068e, cJ0_charAt_5068e, 2, some FieldType.char)
abbrev Y_J0_coder_7d493 : YC := (yJ0_coder_7d493, cJ0_coder_7d493, 1, some FieldType.byte)
abbrev Y_J0_isLatin1_aae02 : YC := (yJ0_isLatin1_aae02, cJ0_isLatin1_aae02, 1, some FieldType.boolean)
abbrev Y_J0_checkIndex_df160 : YC := (yJ0_checkIndex_df160, cJ0_checkIndex_df160, 2, none)
abbrev Y_J1_charAt_3b067 : YC := (yJ1_charAt_3b067, cJ1_charAt_3b067, 2, some FieldType.char)
abbrev Y_J2_getChar_3b067 : YC := (yJ2_getChar_3b067, cJ2_getChar_3b067, 2, some FieldType.char)
abbrev Y_J2_length_9d52b : YC := (yJ2_length_9d52b, cJ2_length_9d52b, 1, some FieldType.int)
abbrev Y_J2_charAt_3b067 : YC := (yJ2_charAt_3b067, cJ2_charAt_3b067, 2, some FieldType.char)
abbrev Y_J2_checkIndex_2214a : YC := (yJ2_checkIndex_2214a, cJ2_checkIndex_2214a, 2, none)
abbrev Y_J3_checkIndex_8e157 : YC := (yJ3_checkIndex_8e157, cJ3_checkIndex_8e157, 3, some FieldType.int)
set_option maxRecDepth 100000 in
theorem mw_X1_append : Cond.instanceMethod Y_X1_append.1 ∈ tbG ∧ Cond.selects Y_X1_append.1.cls Y_X1_append.1 Y_X1_append.1 ∈ tbG ∧ Cond.initialized Y_X1_append.1.cls ∈ tbG ∧ Cond.code Y_X1_append.1 Y_X1_append.2.1 Y_X1_append.2.2.1 Y_X1_append.2.2.2 ∈ tbG := ⟨tb_at 907 (by decide +kernel) rfl, tb_at 908 (by decide +kernel) rfl, tb_at 73 (by decide +kernel) rfl, tb_at 909 (rfl) rfl⟩
set_option maxRecDepth 100000 in
theorem mw_X1_rewind : Cond.instanceMethod Y_X1_rewind.1 ∈ tbG ∧ Cond.selects Y_X1_rewind.1.cls Y_X1_rewind.1 Y_X1_rewind.1 ∈ tbG ∧ Cond.initialized Y_X1_rewind.1.cls ∈ tbG ∧ Cond.code Y_X1_rewind.1 Y_X1_rewind.2.1 Y_X1_rewind.2.2.1 Y_X1_rewind.2.2.2 ∈ tbG := ⟨tb_at 367 (by decide +kernel) rfl, tb_at 368 (by decide +kernel) rfl, tb_at 73 (by decide +kernel) rfl, tb_at 369 (rfl) rfl⟩
set_option maxRecDepth 100000 in
theorem mw_X1_findFault : Cond.instanceMethod Y_X1_findFault.1 ∈ tbG ∧ Cond.selects Y_X1_findFault.1.cls Y_X1_findFault.1 Y_X1_findFault.1 ∈ tbG ∧ Cond.initialized Y_X1_findFault.1.cls ∈ tbG ∧ Cond.code Y_X1_findFault.1 Y_X1_findFault.2.1 Y_X1_findFault.2.2.1 Y_X1_findFault.2.2.2 ∈ tbG := ⟨tb_at 363 (by decide +kernel) rfl, tb_at 364 (by decide +kernel) rfl, tb_at 73 (by decide +kernel) rfl, tb_at 365 (rfl) rfl⟩
set_option maxRecDepth 100000 in
theorem mw_X1_readCommand : Cond.instanceMethod Y_X1_readCommand.1 ∈ tbG ∧ Cond.selects Y_X1_readCommand.1.cls Y_X1_readCommand.1 Y_X1_readCommand.1 ∈ tbG ∧ Cond.initialized Y_X1_readCommand.1.cls ∈ tbG ∧ Cond.code Y_X1_readCommand.1 Y_X1_readCommand.2.1 Y_X1_readCommand.2.2.1 Y_X1_readCommand.2.2.2 ∈ tbG := ⟨tb_at 371 (by decide +kernel) rfl, tb_at 372 (by decide +kernel) rfl, tb_at 73 (by decide +kernel) rfl, tb_at 373 (rfl) rfl⟩
set_option maxRecDepth 100000 in
theorem mw_X1_readWord : Cond.instanceMethod Y_X1_readWord.1 ∈ tbG ∧ Cond.selects Y_X1_readWord.1.cls Y_X1_readWord.1 Y_X1_readWord.1 ∈ tbG ∧ Cond.initialized Y_X1_readWord.1.cls ∈ tbG ∧ Cond.code Y_X1_readWord.1 Y_X1_readWord.2.1 Y_X1_readWord.2.2.1 Y_X1_readWord.2.2.2 ∈ tbG := ⟨tb_at 384 (by decide +kernel) rfl, tb_at 7 (by decide +kernel) rfl, tb_at 73 (by decide +kernel) rfl, tb_at 385 (rfl) rfl⟩
set_option maxRecDepth 100000 in
theorem mw_X1_wordBetween : Cond.instanceMethod Y_X1_wordBetween.1 ∈ tbG ∧ Cond.selects Y_X1_wordBetween.1.cls Y_X1_wordBetween.1 Y_X1_wordBetween.1 ∈ tbG ∧ Cond.initialized Y_X1_wordBetween.1.cls ∈ tbG ∧ Cond.code Y_X1_wordBetween.1 Y_X1_wordBetween.2.1 Y_X1_wordBetween.2.2.1 Y_X1_wordBetween.2.2.2 ∈ tbG := ⟨tb_at 391 (by decide +kernel) rfl, tb_at 8 (by decide +kernel) rfl, tb_at 73 (by decide +kernel) rfl, tb_at 392 (rfl) rfl⟩
set_option maxRecDepth 100000 in
theorem mw_X1_standsBetween : Cond.instanceMethod Y_X1_standsBetween.1 ∈ tbG ∧ Cond.selects Y_X1_standsBetween.1.cls Y_X1_standsBetween.1 Y_X1_standsBetween.1 ∈ tbG ∧ Cond.initialized Y_X1_standsBetween.1.cls ∈ tbG ∧ Cond.code Y_X1_standsBetween.1 Y_X1_standsBetween.2.1 Y_X1_standsBetween.2.2.1 Y_X1_standsBetween.2.2.2 ∈ tbG := ⟨tb_at 397 (by decide +kernel) rfl, tb_at 9 (by decide +kernel) rfl, tb_at 73 (by decide +kernel) rfl, tb_at 398 (rfl) rfl⟩
set_option maxRecDepth 100000 in
theorem mw_X1_readNumbers : Cond.instanceMethod Y_X1_readNumbers.1 ∈ tbG ∧ Cond.selects Y_X1_readNumbers.1.cls Y_X1_readNumbers.1 Y_X1_readNumbers.1 ∈ tbG ∧ Cond.initialized Y_X1_readNumbers.1.cls ∈ tbG ∧ Cond.code Y_X1_readNumbers.1 Y_X1_readNumbers.2.1 Y_X1_readNumbers.2.2.1 Y_X1_readNumbers.2.2.2 ∈ tbG := ⟨tb_at 453 (by decide +kernel) rfl, tb_at 11 (by decide +kernel) rfl, tb_at 73 (by decide +kernel) rfl, tb_at 454 (rfl) rfl⟩
set_option maxRecDepth 100000 in
theorem mw_X1_readNumber : Cond.instanceMethod Y_X1_readNumber.1 ∈ tbG ∧ Cond.selects Y_X1_readNumber.1.cls Y_X1_readNumber.1 Y_X1_readNumber.1 ∈ tbG ∧ Cond.initialized Y_X1_readNumber.1.cls ∈ tbG ∧ Cond.code Y_X1_readNumber.1 Y_X1_readNumber.2.1 Y_X1_readNumber.2.2.1 Y_X1_readNumber.2.2.2 ∈ tbG := ⟨tb_at 457 (by decide +kernel) rfl, tb_at 12 (by decide +kernel) rfl, tb_at 73 (by decide +kernel) rfl, tb_at 458 (rfl) rfl⟩
set_option maxRecDepth 100000 in
theorem mw_X1_readSemicolon : Cond.instanceMethod Y_X1_readSemicolon.1 ∈ tbG ∧ Cond.selects Y_X1_readSemicolon.1.cls Y_X1_readSemicolon.1 Y_X1_readSemicolon.1 ∈ tbG ∧ Cond.initialized Y_X1_readSemicolon.1.cls ∈ tbG ∧ Cond.code Y_X1_readSemicolon.1 Y_X1_readSemicolon.2.1 Y_X1_readSemicolon.2.2.1 Y_X1_readSemicolon.2.2.2 ∈ tbG := ⟨tb_at 464 (by decide +kernel) rfl, tb_at 13 (by decide +kernel) rfl, tb_at 73 (by decide +kernel) rfl, tb_at 465 (rfl) rfl⟩
set_option maxRecDepth 100000 in
theorem mw_X1_skipSpaces : Cond.instanceMethod Y_X1_skipSpaces.1 ∈ tbG ∧ Cond.selects Y_X1_skipSpaces.1.cls Y_X1_skipSpaces.1 Y_X1_skipSpaces.1 ∈ tbG ∧ Cond.initialized Y_X1_skipSpaces.1.cls ∈ tbG ∧ Cond.code Y_X1_skipSpaces.1 Y_X1_skipSpaces.2.1 Y_X1_skipSpaces.2.2.1 Y_X1_skipSpaces.2.2.2 ∈ tbG := ⟨tb_at 376 (by decide +kernel) rfl, tb_at 5 (by decide +kernel) rfl, tb_at 73 (by decide +kernel) rfl, tb_at 377 (rfl) rfl⟩
set_option maxRecDepth 100000 in
theorem mw_X1_failAt : Cond.instanceMethod Y_X1_failAt.1 ∈ tbG ∧ Cond.selects Y_X1_failAt.1.cls Y_X1_failAt.1 Y_X1_failAt.1 ∈ tbG ∧ Cond.initialized Y_X1_failAt.1.cls ∈ tbG ∧ Cond.code Y_X1_failAt.1 Y_X1_failAt.2.1 Y_X1_failAt.2.2.1 Y_X1_failAt.2.2.2 ∈ tbG := ⟨tb_at 449 (by decide +kernel) rfl, tb_at 10 (by decide +kernel) rfl, tb_at 73 (by decide +kernel) rfl, tb_at 450 (rfl) rfl⟩
set_option maxRecDepth 100000 in
theorem mw_X1_peek : Cond.instanceMethod Y_X1_peek.1 ∈ tbG ∧ Cond.selects Y_X1_peek.1.cls Y_X1_peek.1 Y_X1_peek.1 ∈ tbG ∧ Cond.initialized Y_X1_peek.1.cls ∈ tbG ∧ Cond.code Y_X1_peek.1 Y_X1_peek.2.1 Y_X1_peek.2.2.1 Y_X1_peek.2.2.2 ∈ tbG := ⟨tb_at 380 (by decide +kernel) rfl, tb_at 6 (by decide +kernel) rfl, tb_at 73 (by decide +kernel) rfl, tb_at 381 (rfl) rfl⟩
set_option maxRecDepth 100000 in
theorem mw_X1_isLetter : Cond.static Y_X1_isLetter.1 ∈ tbG ∧ Cond.initialized Y_X1_isLetter.1.cls ∈ tbG ∧ Cond.code Y_X1_isLetter.1 Y_X1_isLetter.2.1 Y_X1_isLetter.2.2.1 Y_X1_isLetter.2.2.2 ∈ tbG := ⟨tb_at 387 (by decide +kernel) rfl, tb_at 73 (by decide +kernel) rfl, tb_at 388 (rfl) rfl⟩
set_option maxRecDepth 100000 in
theorem mw_X1_isDigit : Cond.static Y_X1_isDigit.1 ∈ tbG ∧ Cond.initialized Y_X1_isDigit.1.cls ∈ tbG ∧ Cond.code Y_X1_isDigit.1 Y_X1_isDigit.2.1 Y_X1_isDigit.2.2.1 Y_X1_isDigit.2.2.2 ∈ tbG := ⟨tb_at 460 (by decide +kernel) rfl, tb_at 73 (by decide +kernel) rfl, tb_at 461 (rfl) rfl⟩
set_option maxRecDepth 100000 in
theorem mw_X2_become : Cond.instanceMethod Y_X2_become.1 ∈ tbG ∧ Cond.selects Y_X2_become.1.cls Y_X2_become.1 Y_X2_become.1 ∈ tbG ∧ Cond.initialized Y_X2_become.1.cls ∈ tbG ∧ Cond.code Y_X2_become.1 Y_X2_become.2.1 Y_X2_become.2.2.1 Y_X2_become.2.2.2 ∈ tbG := ⟨tb_at 325 (by decide +kernel) rfl, tb_at 326 (by decide +kernel) rfl, tb_at 70 (by decide +kernel) rfl, tb_at 327 (rfl) rfl⟩
set_option maxRecDepth 100000 in
theorem mw_X2_count : Cond.instanceMethod Y_X2_count.1 ∈ tbG ∧ Cond.selects Y_X2_count.1.cls Y_X2_count.1 Y_X2_count.1 ∈ tbG ∧ Cond.initialized Y_X2_count.1.cls ∈ tbG ∧ Cond.code Y_X2_count.1 Y_X2_count.2.1 Y_X2_count.2.2.1 Y_X2_count.2.2.2 ∈ tbG := ⟨tb_at 269 (by decide +kernel) rfl, tb_at 270 (by decide +kernel) rfl, tb_at 70 (by decide +kernel) rfl, tb_at 271 (rfl) rfl⟩
set_option maxRecDepth 100000 in
theorem mw_X2_has : Cond.instanceMethod Y_X2_has.1 ∈ tbG ∧ Cond.selects Y_X2_has.1.cls Y_X2_has.1 Y_X2_has.1 ∈ tbG ∧ Cond.initialized Y_X2_has.1.cls ∈ tbG ∧ Cond.code Y_X2_has.1 Y_X2_has.2.1 Y_X2_has.2.2.1 Y_X2_has.2.2.2 ∈ tbG := ⟨tb_at 509 (by decide +kernel) rfl, tb_at 510 (by decide +kernel) rfl, tb_at 70 (by decide +kernel) rfl, tb_at 511 (rfl) rfl⟩
set_option maxRecDepth 100000 in
theorem mw_X2_plus : Cond.instanceMethod Y_X2_plus.1 ∈ tbG ∧ Cond.selects Y_X2_plus.1.cls Y_X2_plus.1 Y_X2_plus.1 ∈ tbG ∧ Cond.initialized Y_X2_plus.1.cls ∈ tbG ∧ Cond.code Y_X2_plus.1 Y_X2_plus.2.1 Y_X2_plus.2.2.1 Y_X2_plus.2.2.2 ∈ tbG := ⟨tb_at 276 (by decide +kernel) rfl, tb_at 277 (by decide +kernel) rfl, tb_at 70 (by decide +kernel) rfl, tb_at 278 (rfl) rfl⟩
set_option maxRecDepth 100000 in
theorem mw_X2_opposite : Cond.instanceMethod Y_X2_opposite.1 ∈ tbG ∧ Cond.selects Y_X2_opposite.1.cls Y_X2_opposite.1 Y_X2_opposite.1 ∈ tbG ∧ Cond.initialized Y_X2_opposite.1.cls ∈ tbG ∧ Cond.code Y_X2_opposite.1 Y_X2_opposite.2.1 Y_X2_opposite.2.2.1 Y_X2_opposite.2.2.2 ∈ tbG := ⟨tb_at 297 (by decide +kernel) rfl, tb_at 298 (by decide +kernel) rfl, tb_at 70 (by decide +kernel) rfl, tb_at 299 (rfl) rfl⟩
set_option maxRecDepth 100000 in
theorem mw_X2_orderOf : Cond.instanceMethod Y_X2_orderOf.1 ∈ tbG ∧ Cond.selects Y_X2_orderOf.1.cls Y_X2_orderOf.1 Y_X2_orderOf.1 ∈ tbG ∧ Cond.initialized Y_X2_orderOf.1.cls ∈ tbG ∧ Cond.code Y_X2_orderOf.1 Y_X2_orderOf.2.1 Y_X2_orderOf.2.2.1 Y_X2_orderOf.2.2.2 ∈ tbG := ⟨tb_at 284 (by decide +kernel) rfl, tb_at 285 (by decide +kernel) rfl, tb_at 70 (by decide +kernel) rfl, tb_at 286 (rfl) rfl⟩
set_option maxRecDepth 100000 in
theorem mw_X2_commonDivisor : Cond.instanceMethod Y_X2_commonDivisor.1 ∈ tbG ∧ Cond.selects Y_X2_commonDivisor.1.cls Y_X2_commonDivisor.1 Y_X2_commonDivisor.1 ∈ tbG ∧ Cond.initialized Y_X2_commonDivisor.1.cls ∈ tbG ∧ Cond.code Y_X2_commonDivisor.1 Y_X2_commonDivisor.2.1 Y_X2_commonDivisor.2.2.1 Y_X2_commonDivisor.2.2.2 ∈ tbG := ⟨tb_at 246 (by decide +kernel) rfl, tb_at 247 (by decide +kernel) rfl, tb_at 70 (by decide +kernel) rfl, tb_at 248 (rfl) rfl⟩
set_option maxRecDepth 100000 in
theorem mw_X2_exponent : Cond.instanceMethod Y_X2_exponent.1 ∈ tbG ∧ Cond.selects Y_X2_exponent.1.cls Y_X2_exponent.1 Y_X2_exponent.1 ∈ tbG ∧ Cond.initialized Y_X2_exponent.1.cls ∈ tbG ∧ Cond.code Y_X2_exponent.1 Y_X2_exponent.2.1 Y_X2_exponent.2.2.1 Y_X2_exponent.2.2.2 ∈ tbG := ⟨tb_at 253 (by decide +kernel) rfl, tb_at 254 (by decide +kernel) rfl, tb_at 70 (by decide +kernel) rfl, tb_at 255 (rfl) rfl⟩
set_option maxRecDepth 100000 in
theorem mw_X2_reachedWith : Cond.instanceMethod Y_X2_reachedWith.1 ∈ tbG ∧ Cond.selects Y_X2_reachedWith.1.cls Y_X2_reachedWith.1 Y_X2_reachedWith.1 ∈ tbG ∧ Cond.initialized Y_X2_reachedWith.1.cls ∈ tbG ∧ Cond.code Y_X2_reachedWith.1 Y_X2_reachedWith.2.1 Y_X2_reachedWith.2.2.1 Y_X2_reachedWith.2.2.2 ∈ tbG := ⟨tb_at 265 (by decide +kernel) rfl, tb_at 266 (by decide +kernel) rfl, tb_at 70 (by decide +kernel) rfl, tb_at 267 (rfl) rfl⟩
set_option maxRecDepth 100000 in
theorem mw_X2_lowestFree : Cond.instanceMethod Y_X2_lowestFree.1 ∈ tbG ∧ Cond.selects Y_X2_lowestFree.1.cls Y_X2_lowestFree.1 Y_X2_lowestFree.1 ∈ tbG ∧ Cond.initialized Y_X2_lowestFree.1.cls ∈ tbG ∧ Cond.code Y_X2_lowestFree.1 Y_X2_lowestFree.2.1 Y_X2_lowestFree.2.2.1 Y_X2_lowestFree.2.2.2 ∈ tbG := ⟨tb_at 293 (by decide +kernel) rfl, tb_at 294 (by decide +kernel) rfl, tb_at 70 (by decide +kernel) rfl, tb_at 295 (rfl) rfl⟩
set_option maxRecDepth 100000 in
theorem mw_X2_remainder : Cond.static Y_X2_remainder.1 ∈ tbG ∧ Cond.initialized Y_X2_remainder.1.cls ∈ tbG ∧ Cond.code Y_X2_remainder.1 Y_X2_remainder.2.1 Y_X2_remainder.2.2.1 Y_X2_remainder.2.2.2 ∈ tbG := ⟨tb_at 250 (by decide +kernel) rfl, tb_at 70 (by decide +kernel) rfl, tb_at 251 (rfl) rfl⟩
set_option maxRecDepth 100000 in
theorem mw_X2_quotient : Cond.static Y_X2_quotient.1 ∈ tbG ∧ Cond.initialized Y_X2_quotient.1.cls ∈ tbG ∧ Cond.code Y_X2_quotient.1 Y_X2_quotient.2.1 Y_X2_quotient.2.2.1 Y_X2_quotient.2.2.2 ∈ tbG := ⟨tb_at 258 (by decide +kernel) rfl, tb_at 70 (by decide +kernel) rfl, tb_at 259 (rfl) rfl⟩
set_option maxRecDepth 100000 in
theorem mw_X3_keep : Cond.instanceMethod Y_X3_keep.1 ∈ tbG ∧ Cond.selects Y_X3_keep.1.cls Y_X3_keep.1 Y_X3_keep.1 ∈ tbG ∧ Cond.initialized Y_X3_keep.1.cls ∈ tbG ∧ Cond.code Y_X3_keep.1 Y_X3_keep.2.1 Y_X3_keep.2.2.1 Y_X3_keep.2.2.2 ∈ tbG := ⟨tb_at 467 (by decide +kernel) rfl, tb_at 468 (by decide +kernel) rfl, tb_at 71 (by decide +kernel) rfl, tb_at 469 (rfl) rfl⟩
set_option maxRecDepth 100000 in
theorem mw_X3_bringBack : Cond.instanceMethod Y_X3_bringBack.1 ∈ tbG ∧ Cond.selects Y_X3_bringBack.1.cls Y_X3_bringBack.1 Y_X3_bringBack.1 ∈ tbG ∧ Cond.initialized Y_X3_bringBack.1.cls ∈ tbG ∧ Cond.code Y_X3_bringBack.1 Y_X3_bringBack.2.1 Y_X3_bringBack.2.2.1 Y_X3_bringBack.2.2.2 ∈ tbG := ⟨tb_at 919 (by decide +kernel) rfl, tb_at 920 (by decide +kernel) rfl, tb_at 71 (by decide +kernel) rfl, tb_at 921 (rfl) rfl⟩
set_option maxRecDepth 100000 in
theorem mw_X3_dropOldest : Cond.instanceMethod Y_X3_dropOldest.1 ∈ tbG ∧ Cond.selects Y_X3_dropOldest.1.cls Y_X3_dropOldest.1 Y_X3_dropOldest.1 ∈ tbG ∧ Cond.initialized Y_X3_dropOldest.1.cls ∈ tbG ∧ Cond.code Y_X3_dropOldest.1 Y_X3_dropOldest.2.1 Y_X3_dropOldest.2.2.1 Y_X3_dropOldest.2.2.2 ∈ tbG := ⟨tb_at 472 (by decide +kernel) rfl, tb_at 14 (by decide +kernel) rfl, tb_at 71 (by decide +kernel) rfl, tb_at 473 (rfl) rfl⟩
set_option maxRecDepth 100000 in
theorem mw_X4_copyFrom : Cond.instanceMethod Y_X4_copyFrom.1 ∈ tbG ∧ Cond.selects Y_X4_copyFrom.1.cls Y_X4_copyFrom.1 Y_X4_copyFrom.1 ∈ tbG ∧ Cond.initialized Y_X4_copyFrom.1.cls ∈ tbG ∧ Cond.code Y_X4_copyFrom.1 Y_X4_copyFrom.2.1 Y_X4_copyFrom.2.2.1 Y_X4_copyFrom.2.2.2 ∈ tbG := ⟨tb_at 475 (by decide +kernel) rfl, tb_at 476 (by decide +kernel) rfl, tb_at 69 (by decide +kernel) rfl, tb_at 477 (rfl) rfl⟩
set_option maxRecDepth 100000 in
theorem mw_X4_restart : Cond.instanceMethod Y_X4_restart.1 ∈ tbG ∧ Cond.selects Y_X4_restart.1.cls Y_X4_restart.1 Y_X4_restart.1 ∈ tbG ∧ Cond.initialized Y_X4_restart.1.cls ∈ tbG ∧ Cond.code Y_X4_restart.1 Y_X4_restart.2.1 Y_X4_restart.2.2.1 Y_X4_restart.2.2.2 ∈ tbG := ⟨tb_at 501 (by decide +kernel) rfl, tb_at 502 (by decide +kernel) rfl, tb_at 69 (by decide +kernel) rfl, tb_at 503 (rfl) rfl⟩
set_option maxRecDepth 100000 in
theorem mw_X4_isFull : Cond.instanceMethod Y_X4_isFull.1 ∈ tbG ∧ Cond.selects Y_X4_isFull.1.cls Y_X4_isFull.1 Y_X4_isFull.1 ∈ tbG ∧ Cond.initialized Y_X4_isFull.1.cls ∈ tbG ∧ Cond.code Y_X4_isFull.1 Y_X4_isFull.2.1 Y_X4_isFull.2.2.1 Y_X4_isFull.2.2.2 ∈ tbG := ⟨tb_at 333 (by decide +kernel) rfl, tb_at 334 (by decide +kernel) rfl, tb_at 69 (by decide +kernel) rfl, tb_at 335 (rfl) rfl⟩
set_option maxRecDepth 100000 in
theorem mw_X4_hasPlace : Cond.instanceMethod Y_X4_hasPlace.1 ∈ tbG ∧ Cond.selects Y_X4_hasPlace.1.cls Y_X4_hasPlace.1 Y_X4_hasPlace.1 ∈ tbG ∧ Cond.initialized Y_X4_hasPlace.1.cls ∈ tbG ∧ Cond.code Y_X4_hasPlace.1 Y_X4_hasPlace.2.1 Y_X4_hasPlace.2.2.1 Y_X4_hasPlace.2.2.2 ∈ tbG := ⟨tb_at 519 (by decide +kernel) rfl, tb_at 520 (by decide +kernel) rfl, tb_at 69 (by decide +kernel) rfl, tb_at 521 (rfl) rfl⟩
set_option maxRecDepth 100000 in
theorem mw_X4_allPlaces : Cond.instanceMethod Y_X4_allPlaces.1 ∈ tbG ∧ Cond.selects Y_X4_allPlaces.1.cls Y_X4_allPlaces.1 Y_X4_allPlaces.1 ∈ tbG ∧ Cond.initialized Y_X4_allPlaces.1.cls ∈ tbG ∧ Cond.code Y_X4_allPlaces.1 Y_X4_allPlaces.2.1 Y_X4_allPlaces.2.2.1 Y_X4_allPlaces.2.2.2 ∈ tbG := ⟨tb_at 539 (by decide +kernel) rfl, tb_at 540 (by decide +kernel) rfl, tb_at 69 (by decide +kernel) rfl, tb_at 541 (rfl) rfl⟩
set_option maxRecDepth 100000 in
theorem mw_X4_hasPlaces : Cond.instanceMethod Y_X4_hasPlaces.1 ∈ tbG ∧ Cond.selects Y_X4_hasPlaces.1.cls Y_X4_hasPlaces.1 Y_X4_hasPlaces.1 ∈ tbG ∧ Cond.initialized Y_X4_hasPlaces.1.cls ∈ tbG ∧ Cond.code Y_X4_hasPlaces.1 Y_X4_hasPlaces.2.1 Y_X4_hasPlaces.2.2.1 Y_X4_hasPlaces.2.2.2 ∈ tbG := ⟨tb_at 742 (by decide +kernel) rfl, tb_at 743 (by decide +kernel) rfl, tb_at 69 (by decide +kernel) rfl, tb_at 744 (rfl) rfl⟩
set_option maxRecDepth 100000 in
theorem mw_X4_append : Cond.instanceMethod Y_X4_append.1 ∈ tbG ∧ Cond.selects Y_X4_append.1.cls Y_X4_append.1 Y_X4_append.1 ∈ tbG ∧ Cond.initialized Y_X4_append.1.cls ∈ tbG ∧ Cond.code Y_X4_append.1 Y_X4_append.2.1 Y_X4_append.2.2.1 Y_X4_append.2.2.2 ∈ tbG := ⟨tb_at 337 (by decide +kernel) rfl, tb_at 338 (by decide +kernel) rfl, tb_at 69 (by decide +kernel) rfl, tb_at 339 (rfl) rfl⟩
set_option maxRecDepth 100000 in
theorem mw_X4_takeOut : Cond.instanceMethod Y_X4_takeOut.1 ∈ tbG ∧ Cond.selects Y_X4_takeOut.1.cls Y_X4_takeOut.1 Y_X4_takeOut.1 ∈ tbG ∧ Cond.initialized Y_X4_takeOut.1.cls ∈ tbG ∧ Cond.code Y_X4_takeOut.1 Y_X4_takeOut.2.1 Y_X4_takeOut.2.2.1 Y_X4_takeOut.2.2.2 ∈ tbG := ⟨tb_at 523 (by decide +kernel) rfl, tb_at 524 (by decide +kernel) rfl, tb_at 69 (by decide +kernel) rfl, tb_at 525 (rfl) rfl⟩
set_option maxRecDepth 100000 in
theorem mw_X4_timesOf : Cond.instanceMethod Y_X4_timesOf.1 ∈ tbG ∧ Cond.selects Y_X4_timesOf.1.cls Y_X4_timesOf.1 Y_X4_timesOf.1 ∈ tbG ∧ Cond.initialized Y_X4_timesOf.1.cls ∈ tbG ∧ Cond.code Y_X4_timesOf.1 Y_X4_timesOf.2.1 Y_X4_timesOf.2.2.1 Y_X4_timesOf.2.2.2 ∈ tbG := ⟨tb_at 840 (by decide +kernel) rfl, tb_at 841 (by decide +kernel) rfl, tb_at 69 (by decide +kernel) rfl, tb_at 842 (rfl) rfl⟩
set_option maxRecDepth 100000 in
theorem mw_X4_placesOf : Cond.instanceMethod Y_X4_placesOf.1 ∈ tbG ∧ Cond.selects Y_X4_placesOf.1.cls Y_X4_placesOf.1 Y_X4_placesOf.1 ∈ tbG ∧ Cond.initialized Y_X4_placesOf.1.cls ∈ tbG ∧ Cond.code Y_X4_placesOf.1 Y_X4_placesOf.2.1 Y_X4_placesOf.2.2.1 Y_X4_placesOf.2.2.2 ∈ tbG := ⟨tb_at 613 (by decide +kernel) rfl, tb_at 614 (by decide +kernel) rfl, tb_at 69 (by decide +kernel) rfl, tb_at 615 (rfl) rfl⟩
set_option maxRecDepth 100000 in
theorem mw_X4_layPlaces : Cond.instanceMethod Y_X4_layPlaces.1 ∈ tbG ∧ Cond.selects Y_X4_layPlaces.1.cls Y_X4_layPlaces.1 Y_X4_layPlaces.1 ∈ tbG ∧ Cond.initialized Y_X4_layPlaces.1.cls ∈ tbG ∧ Cond.code Y_X4_layPlaces.1 Y_X4_layPlaces.2.1 Y_X4_layPlaces.2.2.1 Y_X4_layPlaces.2.2.2 ∈ tbG := ⟨tb_at 570 (by decide +kernel) rfl, tb_at 571 (by decide +kernel) rfl, tb_at 69 (by decide +kernel) rfl, tb_at 572 (rfl) rfl⟩
set_option maxRecDepth 100000 in
theorem mw_X4_takesFirstOnes : Cond.instanceMethod Y_X4_takesFirstOnes.1 ∈ tbG ∧ Cond.selects Y_X4_takesFirstOnes.1.cls Y_X4_takesFirstOnes.1 Y_X4_takesFirstOnes.1 ∈ tbG ∧ Cond.initialized Y_X4_takesFirstOnes.1.cls ∈ tbG ∧ Cond.code Y_X4_takesFirstOnes.1 Y_X4_takesFirstOnes.2.1 Y_X4_takesFirstOnes.2.2.1 Y_X4_takesFirstOnes.2.2.2 ∈ tbG := ⟨tb_at 347 (by decide +kernel) rfl, tb_at 348 (by decide +kernel) rfl, tb_at 69 (by decide +kernel) rfl, tb_at 349 (rfl) rfl⟩
set_option maxRecDepth 100000 in
theorem mw_X4_skipsBefore : Cond.instanceMethod Y_X4_skipsBefore.1 ∈ tbG ∧ Cond.selects Y_X4_skipsBefore.1.cls Y_X4_skipsBefore.1 Y_X4_skipsBefore.1 ∈ tbG ∧ Cond.initialized Y_X4_skipsBefore.1.cls ∈ tbG ∧ Cond.code Y_X4_skipsBefore.1 Y_X4_skipsBefore.2.1 Y_X4_skipsBefore.2.2.1 Y_X4_skipsBefore.2.2.2 ∈ tbG := ⟨tb_at 352 (by decide +kernel) rfl, tb_at 4 (by decide +kernel) rfl, tb_at 69 (by decide +kernel) rfl, tb_at 353 (rfl) rfl⟩
set_option maxRecDepth 100000 in
theorem mw_X5_follow : Cond.instanceMethod Y_X5_follow.1 ∈ tbG ∧ Cond.selects Y_X5_follow.1.cls Y_X5_follow.1 Y_X5_follow.1 ∈ tbG ∧ Cond.initialized Y_X5_follow.1.cls ∈ tbG ∧ Cond.code Y_X5_follow.1 Y_X5_follow.2.1 Y_X5_follow.2.2.1 Y_X5_follow.2.2.2 ∈ tbG := ⟨tb_at 310 (by decide +kernel) rfl, tb_at 311 (by decide +kernel) rfl, tb_at 72 (by decide +kernel) rfl, tb_at 312 (rfl) rfl⟩
set_option maxRecDepth 100000 in
theorem mw_X5_totalOf : Cond.instanceMethod Y_X5_totalOf.1 ∈ tbG ∧ Cond.selects Y_X5_totalOf.1.cls Y_X5_totalOf.1 Y_X5_totalOf.1 ∈ tbG ∧ Cond.initialized Y_X5_totalOf.1.cls ∈ tbG ∧ Cond.code Y_X5_totalOf.1 Y_X5_totalOf.2.1 Y_X5_totalOf.2.2.1 Y_X5_totalOf.2.2.2 ∈ tbG := ⟨tb_at 587 (by decide +kernel) rfl, tb_at 588 (by decide +kernel) rfl, tb_at 72 (by decide +kernel) rfl, tb_at 589 (rfl) rfl⟩
set_option maxRecDepth 100000 in
theorem mw_X5_isBlock : Cond.instanceMethod Y_X5_isBlock.1 ∈ tbG ∧ Cond.selects Y_X5_isBlock.1.cls Y_X5_isBlock.1 Y_X5_isBlock.1 ∈ tbG ∧ Cond.initialized Y_X5_isBlock.1.cls ∈ tbG ∧ Cond.code Y_X5_isBlock.1 Y_X5_isBlock.2.1 Y_X5_isBlock.2.2.1 Y_X5_isBlock.2.2.2 ∈ tbG := ⟨tb_at 621 (by decide +kernel) rfl, tb_at 622 (by decide +kernel) rfl, tb_at 72 (by decide +kernel) rfl, tb_at 623 (rfl) rfl⟩
set_option maxRecDepth 100000 in
theorem mw_X5_blockOrNone : Cond.instanceMethod Y_X5_blockOrNone.1 ∈ tbG ∧ Cond.selects Y_X5_blockOrNone.1.cls Y_X5_blockOrNone.1 Y_X5_blockOrNone.1 ∈ tbG ∧ Cond.initialized Y_X5_blockOrNone.1.cls ∈ tbG ∧ Cond.code Y_X5_blockOrNone.1 Y_X5_blockOrNone.2.1 Y_X5_blockOrNone.2.2.1 Y_X5_blockOrNone.2.2.2 ∈ tbG := ⟨tb_at 860 (by decide +kernel) rfl, tb_at 861 (by decide +kernel) rfl, tb_at 72 (by decide +kernel) rfl, tb_at 862 (rfl) rfl⟩
set_option maxRecDepth 100000 in
theorem mw_X5_countBlocksIn : Cond.instanceMethod Y_X5_countBlocksIn.1 ∈ tbG ∧ Cond.selects Y_X5_countBlocksIn.1.cls Y_X5_countBlocksIn.1 Y_X5_countBlocksIn.1 ∈ tbG ∧ Cond.initialized Y_X5_countBlocksIn.1.cls ∈ tbG ∧ Cond.code Y_X5_countBlocksIn.1 Y_X5_countBlocksIn.2.1 Y_X5_countBlocksIn.2.2.1 Y_X5_countBlocksIn.2.2.2 ∈ tbG := ⟨tb_at 754 (by decide +kernel) rfl, tb_at 755 (by decide +kernel) rfl, tb_at 72 (by decide +kernel) rfl, tb_at 756 (rfl) rfl⟩
set_option maxRecDepth 100000 in
theorem mw_X5_countBlocksAt : Cond.instanceMethod Y_X5_countBlocksAt.1 ∈ tbG ∧ Cond.selects Y_X5_countBlocksAt.1.cls Y_X5_countBlocksAt.1 Y_X5_countBlocksAt.1 ∈ tbG ∧ Cond.initialized Y_X5_countBlocksAt.1.cls ∈ tbG ∧ Cond.code Y_X5_countBlocksAt.1 Y_X5_countBlocksAt.2.1 Y_X5_countBlocksAt.2.2.1 Y_X5_countBlocksAt.2.2.2 ∈ tbG := ⟨tb_at 723 (by decide +kernel) rfl, tb_at 724 (by decide +kernel) rfl, tb_at 72 (by decide +kernel) rfl, tb_at 725 (rfl) rfl⟩
set_option maxRecDepth 100000 in
theorem mw_X5_smallestBlock : Cond.instanceMethod Y_X5_smallestBlock.1 ∈ tbG ∧ Cond.selects Y_X5_smallestBlock.1.cls Y_X5_smallestBlock.1 Y_X5_smallestBlock.1 ∈ tbG ∧ Cond.initialized Y_X5_smallestBlock.1.cls ∈ tbG ∧ Cond.code Y_X5_smallestBlock.1 Y_X5_smallestBlock.2.1 Y_X5_smallestBlock.2.2.1 Y_X5_smallestBlock.2.2.2 ∈ tbG := ⟨tb_at 592 (by decide +kernel) rfl, tb_at 593 (by decide +kernel) rfl, tb_at 72 (by decide +kernel) rfl, tb_at 594 (rfl) rfl⟩
set_option maxRecDepth 100000 in
theorem mw_X5_greatestBlock : Cond.instanceMethod Y_X5_greatestBlock.1 ∈ tbG ∧ Cond.selects Y_X5_greatestBlock.1.cls Y_X5_greatestBlock.1 Y_X5_greatestBlock.1 ∈ tbG ∧ Cond.initialized Y_X5_greatestBlock.1.cls ∈ tbG ∧ Cond.code Y_X5_greatestBlock.1 Y_X5_greatestBlock.2.1 Y_X5_greatestBlock.2.2.1 Y_X5_greatestBlock.2.2.2 ∈ tbG := ⟨tb_at 602 (by decide +kernel) rfl, tb_at 603 (by decide +kernel) rfl, tb_at 72 (by decide +kernel) rfl, tb_at 604 (rfl) rfl⟩
set_option maxRecDepth 100000 in
theorem mw_X5_countFreeSets : Cond.instanceMethod Y_X5_countFreeSets.1 ∈ tbG ∧ Cond.selects Y_X5_countFreeSets.1.cls Y_X5_countFreeSets.1 Y_X5_countFreeSets.1 ∈ tbG ∧ Cond.initialized Y_X5_countFreeSets.1.cls ∈ tbG ∧ Cond.code Y_X5_countFreeSets.1 Y_X5_countFreeSets.2.1 Y_X5_countFreeSets.2.2.1 Y_X5_countFreeSets.2.2.2 ∈ tbG := ⟨tb_at 887 (by decide +kernel) rfl, tb_at 888 (by decide +kernel) rfl, tb_at 72 (by decide +kernel) rfl, tb_at 889 (rfl) rfl⟩
set_option maxRecDepth 100000 in
theorem mw_X5_lengthsOf : Cond.instanceMethod Y_X5_lengthsOf.1 ∈ tbG ∧ Cond.selects Y_X5_lengthsOf.1.cls Y_X5_lengthsOf.1 Y_X5_lengthsOf.1 ∈ tbG ∧ Cond.initialized Y_X5_lengthsOf.1.cls ∈ tbG ∧ Cond.code Y_X5_lengthsOf.1 Y_X5_lengthsOf.2.1 Y_X5_lengthsOf.2.2.1 Y_X5_lengthsOf.2.2.2 ∈ tbG := ⟨tb_at 547 (by decide +kernel) rfl, tb_at 548 (by decide +kernel) rfl, tb_at 72 (by decide +kernel) rfl, tb_at 549 (rfl) rfl⟩
set_option maxRecDepth 100000 in
theorem mw_X5_splitsOf : Cond.instanceMethod Y_X5_splitsOf.1 ∈ tbG ∧ Cond.selects Y_X5_splitsOf.1.cls Y_X5_splitsOf.1 Y_X5_splitsOf.1 ∈ tbG ∧ Cond.initialized Y_X5_splitsOf.1.cls ∈ tbG ∧ Cond.code Y_X5_splitsOf.1 Y_X5_splitsOf.2.1 Y_X5_splitsOf.2.2.1 Y_X5_splitsOf.2.2.2 ∈ tbG := ⟨tb_at 750 (by decide +kernel) rfl, tb_at 751 (by decide +kernel) rfl, tb_at 72 (by decide +kernel) rfl, tb_at 752 (rfl) rfl⟩
set_option maxRecDepth 100000 in
theorem mw_X5_mostBlocks : Cond.instanceMethod Y_X5_mostBlocks.1 ∈ tbG ∧ Cond.selects Y_X5_mostBlocks.1.cls Y_X5_mostBlocks.1 Y_X5_mostBlocks.1 ∈ tbG ∧ Cond.initialized Y_X5_mostBlocks.1.cls ∈ tbG ∧ Cond.code Y_X5_mostBlocks.1 Y_X5_mostBlocks.2.1 Y_X5_mostBlocks.2.2.1 Y_X5_mostBlocks.2.2.2 ∈ tbG := ⟨tb_at 543 (by decide +kernel) rfl, tb_at 544 (by decide +kernel) rfl, tb_at 72 (by decide +kernel) rfl, tb_at 545 (rfl) rfl⟩
set_option maxRecDepth 100000 in
theorem mw_X5_firstBlockOfSplit : Cond.instanceMethod Y_X5_firstBlockOfSplit.1 ∈ tbG ∧ Cond.selects Y_X5_firstBlockOfSplit.1.cls Y_X5_firstBlockOfSplit.1 Y_X5_firstBlockOfSplit.1 ∈ tbG ∧ Cond.initialized Y_X5_firstBlockOfSplit.1.cls ∈ tbG ∧ Cond.code Y_X5_firstBlockOfSplit.1 Y_X5_firstBlockOfSplit.2.1 Y_X5_firstBlockOfSplit.2.2.1 Y_X5_firstBlockOfSplit.2.2.2 ∈ tbG := ⟨tb_at 566 (by decide +kernel) rfl, tb_at 567 (by decide +kernel) rfl, tb_at 72 (by decide +kernel) rfl, tb_at 568 (rfl) rfl⟩
set_option maxRecDepth 100000 in
theorem mw_X5_samePlaces : Cond.instanceMethod Y_X5_samePlaces.1 ∈ tbG ∧ Cond.selects Y_X5_samePlaces.1.cls Y_X5_samePlaces.1 Y_X5_samePlaces.1 ∈ tbG ∧ Cond.initialized Y_X5_samePlaces.1.cls ∈ tbG ∧ Cond.code Y_X5_samePlaces.1 Y_X5_samePlaces.2.1 Y_X5_samePlaces.2.2.1 Y_X5_samePlaces.2.2.2 ∈ tbG := ⟨tb_at 315 (by decide +kernel) rfl, tb_at 0 (by decide +kernel) rfl, tb_at 72 (by decide +kernel) rfl, tb_at 316 (rfl) rfl⟩
set_option maxRecDepth 100000 in
theorem mw_X5_cutTo : Cond.instanceMethod Y_X5_cutTo.1 ∈ tbG ∧ Cond.selects Y_X5_cutTo.1.cls Y_X5_cutTo.1 Y_X5_cutTo.1 ∈ tbG ∧ Cond.initialized Y_X5_cutTo.1.cls ∈ tbG ∧ Cond.code Y_X5_cutTo.1 Y_X5_cutTo.2.1 Y_X5_cutTo.2.2.1 Y_X5_cutTo.2.2.2 ∈ tbG := ⟨tb_at 322 (by decide +kernel) rfl, tb_at 1 (by decide +kernel) rfl, tb_at 72 (by decide +kernel) rfl, tb_at 323 (rfl) rfl⟩
set_option maxRecDepth 100000 in
theorem mw_X5_tablePlace : Cond.instanceMethod Y_X5_tablePlace.1 ∈ tbG ∧ Cond.selects Y_X5_tablePlace.1.cls Y_X5_tablePlace.1 Y_X5_tablePlace.1 ∈ tbG ∧ Cond.initialized Y_X5_tablePlace.1.cls ∈ tbG ∧ Cond.code Y_X5_tablePlace.1 Y_X5_tablePlace.2.1 Y_X5_tablePlace.2.2.1 Y_X5_tablePlace.2.2.2 ∈ tbG := ⟨tb_at 330 (by decide +kernel) rfl, tb_at 2 (by decide +kernel) rfl, tb_at 72 (by decide +kernel) rfl, tb_at 331 (rfl) rfl⟩
set_option maxRecDepth 100000 in
theorem mw_X5_kindOf : Cond.instanceMethod Y_X5_kindOf.1 ∈ tbG ∧ Cond.selects Y_X5_kindOf.1.cls Y_X5_kindOf.1 Y_X5_kindOf.1 ∈ tbG ∧ Cond.initialized Y_X5_kindOf.1.cls ∈ tbG ∧ Cond.code Y_X5_kindOf.1 Y_X5_kindOf.2.1 Y_X5_kindOf.2.2.1 Y_X5_kindOf.2.2.2 ∈ tbG := ⟨tb_at 344 (by decide +kernel) rfl, tb_at 3 (by decide +kernel) rfl, tb_at 72 (by decide +kernel) rfl, tb_at 345 (rfl) rfl⟩
set_option maxRecDepth 100000 in
theorem mw_X5_isSet : Cond.static Y_X5_isSet.1 ∈ tbG ∧ Cond.initialized Y_X5_isSet.1.cls ∈ tbG ∧ Cond.code Y_X5_isSet.1 Y_X5_isSet.2.1 Y_X5_isSet.2.2.1 Y_X5_isSet.2.2.2 ∈ tbG := ⟨tb_at 559 (by decide +kernel) rfl, tb_at 72 (by decide +kernel) rfl, tb_at 560 (rfl) rfl⟩
set_option maxRecDepth 100000 in
theorem mw_X5_tableSplits : Cond.instanceMethod Y_X5_tableSplits.1 ∈ tbG ∧ Cond.selects Y_X5_tableSplits.1.cls Y_X5_tableSplits.1 Y_X5_tableSplits.1 ∈ tbG ∧ Cond.initialized Y_X5_tableSplits.1.cls ∈ tbG ∧ Cond.code Y_X5_tableSplits.1 Y_X5_tableSplits.2.1 Y_X5_tableSplits.2.2.1 Y_X5_tableSplits.2.2.2 ∈ tbG := ⟨tb_at 552 (by decide +kernel) rfl, tb_at 21 (by decide +kernel) rfl, tb_at 72 (by decide +kernel) rfl, tb_at 553 (rfl) rfl⟩
set_option maxRecDepth 100000 in
theorem mw_X5_tableSplitsOf : Cond.instanceMethod Y_X5_tableSplitsOf.1 ∈ tbG ∧ Cond.selects Y_X5_tableSplitsOf.1.cls Y_X5_tableSplitsOf.1 Y_X5_tableSplitsOf.1 ∈ tbG ∧ Cond.initialized Y_X5_tableSplitsOf.1.cls ∈ tbG ∧ Cond.code Y_X5_tableSplitsOf.1 Y_X5_tableSplitsOf.2.1 Y_X5_tableSplitsOf.2.2.1 Y_X5_tableSplitsOf.2.2.2 ∈ tbG := ⟨tb_at 556 (by decide +kernel) rfl, tb_at 22 (by decide +kernel) rfl, tb_at 72 (by decide +kernel) rfl, tb_at 557 (rfl) rfl⟩
set_option maxRecDepth 100000 in
theorem mw_X7_begin : Cond.instanceMethod Y_X7_begin.1 ∈ tbG ∧ Cond.selects Y_X7_begin.1.cls Y_X7_begin.1 Y_X7_begin.1 ∈ tbG ∧ Cond.initialized Y_X7_begin.1.cls ∈ tbG ∧ Cond.code Y_X7_begin.1 Y_X7_begin.2.1 Y_X7_begin.2.2.1 Y_X7_begin.2.2.2 ∈ tbG := ⟨tb_at 771 (by decide +kernel) rfl, tb_at 772 (by decide +kernel) rfl, tb_at 68 (by decide +kernel) rfl, tb_at 773 (rfl) rfl⟩
set_option maxRecDepth 100000 in
theorem mw_X7_add : Cond.instanceMethod Y_X7_add.1 ∈ tbG ∧ Cond.selects Y_X7_add.1.cls Y_X7_add.1 Y_X7_add.1 ∈ tbG ∧ Cond.initialized Y_X7_add.1.cls ∈ tbG ∧ Cond.code Y_X7_add.1 Y_X7_add.2.1 Y_X7_add.2.2.1 Y_X7_add.2.2.2 ∈ tbG := ⟨tb_at 781 (by decide +kernel) rfl, tb_at 782 (by decide +kernel) rfl, tb_at 68 (by decide +kernel) rfl, tb_at 783 (rfl) rfl⟩
set_option maxRecDepth 100000 in
theorem mw_X7_removeAt : Cond.instanceMethod Y_X7_removeAt.1 ∈ tbG ∧ Cond.selects Y_X7_removeAt.1.cls Y_X7_removeAt.1 Y_X7_removeAt.1 ∈ tbG ∧ Cond.initialized Y_X7_removeAt.1.cls ∈ tbG ∧ Cond.code Y_X7_removeAt.1 Y_X7_removeAt.2.1 Y_X7_removeAt.2.2.1 Y_X7_removeAt.2.2.2 ∈ tbG := ⟨tb_at 805 (by decide +kernel) rfl, tb_at 806 (by decide +kernel) rfl, tb_at 68 (by decide +kernel) rfl, tb_at 807 (rfl) rfl⟩
set_option maxRecDepth 100000 in
theorem mw_X7_lay : Cond.instanceMethod Y_X7_lay.1 ∈ tbG ∧ Cond.selects Y_X7_lay.1.cls Y_X7_lay.1 Y_X7_lay.1 ∈ tbG ∧ Cond.initialized Y_X7_lay.1.cls ∈ tbG ∧ Cond.code Y_X7_lay.1 Y_X7_lay.2.1 Y_X7_lay.2.2.1 Y_X7_lay.2.2.2 ∈ tbG := ⟨tb_at 812 (by decide +kernel) rfl, tb_at 813 (by decide +kernel) rfl, tb_at 68 (by decide +kernel) rfl, tb_at 814 (rfl) rfl⟩
set_option maxRecDepth 100000 in
theorem mw_X7_laySplit : Cond.instanceMethod Y_X7_laySplit.1 ∈ tbG ∧ Cond.selects Y_X7_laySplit.1.cls Y_X7_laySplit.1 Y_X7_laySplit.1 ∈ tbG ∧ Cond.initialized Y_X7_laySplit.1.cls ∈ tbG ∧ Cond.code Y_X7_laySplit.1 Y_X7_laySplit.2.1 Y_X7_laySplit.2.2.1 Y_X7_laySplit.2.2.2 ∈ tbG := ⟨tb_at 819 (by decide +kernel) rfl, tb_at 820 (by decide +kernel) rfl, tb_at 68 (by decide +kernel) rfl, tb_at 821 (rfl) rfl⟩
set_option maxRecDepth 100000 in
theorem mw_X7_sum : Cond.instanceMethod Y_X7_sum.1 ∈ tbG ∧ Cond.selects Y_X7_sum.1.cls Y_X7_sum.1 Y_X7_sum.1 ∈ tbG ∧ Cond.initialized Y_X7_sum.1.cls ∈ tbG ∧ Cond.code Y_X7_sum.1 Y_X7_sum.2.1 Y_X7_sum.2.2.1 Y_X7_sum.2.2.2 ∈ tbG := ⟨tb_at 827 (by decide +kernel) rfl, tb_at 828 (by decide +kernel) rfl, tb_at 68 (by decide +kernel) rfl, tb_at 829 (rfl) rfl⟩
set_option maxRecDepth 100000 in
theorem mw_X7_element : Cond.instanceMethod Y_X7_element.1 ∈ tbG ∧ Cond.selects Y_X7_element.1.cls Y_X7_element.1 Y_X7_element.1 ∈ tbG ∧ Cond.initialized Y_X7_element.1.cls ∈ tbG ∧ Cond.code Y_X7_element.1 Y_X7_element.2.1 Y_X7_element.2.2.1 Y_X7_element.2.2.2 ∈ tbG := ⟨tb_at 835 (by decide +kernel) rfl, tb_at 836 (by decide +kernel) rfl, tb_at 68 (by decide +kernel) rfl, tb_at 837 (rfl) rfl⟩
set_option maxRecDepth 100000 in
theorem mw_X7_bound : Cond.instanceMethod Y_X7_bound.1 ∈ tbG ∧ Cond.selects Y_X7_bound.1.cls Y_X7_bound.1 Y_X7_bound.1 ∈ tbG ∧ Cond.initialized Y_X7_bound.1.cls ∈ tbG ∧ Cond.code Y_X7_bound.1 Y_X7_bound.2.1 Y_X7_bound.2.2.1 Y_X7_bound.2.2.2 ∈ tbG := ⟨tb_at 242 (by decide +kernel) rfl, tb_at 243 (by decide +kernel) rfl, tb_at 68 (by decide +kernel) rfl, tb_at 244 (rfl) rfl⟩
set_option maxRecDepth 100000 in
theorem mw_X7_at : Cond.instanceMethod Y_X7_at.1 ∈ tbG ∧ Cond.selects Y_X7_at.1.cls Y_X7_at.1 Y_X7_at.1 ∈ tbG ∧ Cond.initialized Y_X7_at.1.cls ∈ tbG ∧ Cond.code Y_X7_at.1 Y_X7_at.2.1 Y_X7_at.2.2.1 Y_X7_at.2.2.2 ∈ tbG := ⟨tb_at 703 (by decide +kernel) rfl, tb_at 704 (by decide +kernel) rfl, tb_at 68 (by decide +kernel) rfl, tb_at 705 (rfl) rfl⟩
set_option maxRecDepth 100000 in
theorem mw_X7_set : Cond.instanceMethod Y_X7_set.1 ∈ tbG ∧ Cond.selects Y_X7_set.1.cls Y_X7_set.1 Y_X7_set.1 ∈ tbG ∧ Cond.initialized Y_X7_set.1.cls ∈ tbG ∧ Cond.code Y_X7_set.1 Y_X7_set.2.1 Y_X7_set.2.2.1 Y_X7_set.2.2.2 ∈ tbG := ⟨tb_at 738 (by decide +kernel) rfl, tb_at 739 (by decide +kernel) rfl, tb_at 68 (by decide +kernel) rfl, tb_at 740 (rfl) rfl⟩
set_option maxRecDepth 100000 in
theorem mw_X7_block : Cond.instanceMethod Y_X7_block.1 ∈ tbG ∧ Cond.selects Y_X7_block.1.cls Y_X7_block.1 Y_X7_block.1 ∈ tbG ∧ Cond.initialized Y_X7_block.1.cls ∈ tbG ∧ Cond.code Y_X7_block.1 Y_X7_block.2.1 Y_X7_block.2.2.1 Y_X7_block.2.2.2 ∈ tbG := ⟨tb_at 855 (by decide +kernel) rfl, tb_at 856 (by decide +kernel) rfl, tb_at 68 (by decide +kernel) rfl, tb_at 857 (rfl) rfl⟩
set_option maxRecDepth 100000 in
theorem mw_X7_part : Cond.instanceMethod Y_X7_part.1 ∈ tbG ∧ Cond.selects Y_X7_part.1.cls Y_X7_part.1 Y_X7_part.1 ∈ tbG ∧ Cond.initialized Y_X7_part.1.cls ∈ tbG ∧ Cond.code Y_X7_part.1 Y_X7_part.2.1 Y_X7_part.2.2.1 Y_X7_part.2.2.2 ∈ tbG := ⟨tb_at 732 (by decide +kernel) rfl, tb_at 733 (by decide +kernel) rfl, tb_at 68 (by decide +kernel) rfl, tb_at 734 (rfl) rfl⟩
set_option maxRecDepth 100000 in
theorem mw_X7_whole : Cond.instanceMethod Y_X7_whole.1 ∈ tbG ∧ Cond.selects Y_X7_whole.1.cls Y_X7_whole.1 Y_X7_whole.1 ∈ tbG ∧ Cond.initialized Y_X7_whole.1.cls ∈ tbG ∧ Cond.code Y_X7_whole.1 Y_X7_whole.2.1 Y_X7_whole.2.2.1 Y_X7_whole.2.2.2 ∈ tbG := ⟨tb_at 583 (by decide +kernel) rfl, tb_at 584 (by decide +kernel) rfl, tb_at 68 (by decide +kernel) rfl, tb_at 585 (rfl) rfl⟩
set_option maxRecDepth 100000 in
theorem mw_X7_sums : Cond.instanceMethod Y_X7_sums.1 ∈ tbG ∧ Cond.selects Y_X7_sums.1.cls Y_X7_sums.1 Y_X7_sums.1 ∈ tbG ∧ Cond.initialized Y_X7_sums.1.cls ∈ tbG ∧ Cond.code Y_X7_sums.1 Y_X7_sums.2.1 Y_X7_sums.2.2.1 Y_X7_sums.2.2.2 ∈ tbG := ⟨tb_at 261 (by decide +kernel) rfl, tb_at 262 (by decide +kernel) rfl, tb_at 68 (by decide +kernel) rfl, tb_at 263 (rfl) rfl⟩
set_option maxRecDepth 100000 in
theorem mw_X7_cross : Cond.instanceMethod Y_X7_cross.1 ∈ tbG ∧ Cond.selects Y_X7_cross.1.cls Y_X7_cross.1 Y_X7_cross.1 ∈ tbG ∧ Cond.initialized Y_X7_cross.1.cls ∈ tbG ∧ Cond.code Y_X7_cross.1 Y_X7_cross.2.1 Y_X7_cross.2.2.1 Y_X7_cross.2.2.2 ∈ tbG := ⟨tb_at 280 (by decide +kernel) rfl, tb_at 281 (by decide +kernel) rfl, tb_at 68 (by decide +kernel) rfl, tb_at 282 (rfl) rfl⟩
set_option maxRecDepth 100000 in
theorem mw_X7_reason : Cond.instanceMethod Y_X7_reason.1 ∈ tbG ∧ Cond.selects Y_X7_reason.1.cls Y_X7_reason.1 Y_X7_reason.1 ∈ tbG ∧ Cond.initialized Y_X7_reason.1.cls ∈ tbG ∧ Cond.code Y_X7_reason.1 Y_X7_reason.2.1 Y_X7_reason.2.2.1 Y_X7_reason.2.2.2 ∈ tbG := ⟨tb_at 875 (by decide +kernel) rfl, tb_at 876 (by decide +kernel) rfl, tb_at 68 (by decide +kernel) rfl, tb_at 877 (rfl) rfl⟩
set_option maxRecDepth 100000 in
theorem mw_X7_freeElement : Cond.instanceMethod Y_X7_freeElement.1 ∈ tbG ∧ Cond.selects Y_X7_freeElement.1.cls Y_X7_freeElement.1 Y_X7_freeElement.1 ∈ tbG ∧ Cond.initialized Y_X7_freeElement.1.cls ∈ tbG ∧ Cond.code Y_X7_freeElement.1 Y_X7_freeElement.2.1 Y_X7_freeElement.2.2.1 Y_X7_freeElement.2.2.2 ∈ tbG := ⟨tb_at 288 (by decide +kernel) rfl, tb_at 289 (by decide +kernel) rfl, tb_at 68 (by decide +kernel) rfl, tb_at 290 (rfl) rfl⟩
set_option maxRecDepth 100000 in
theorem mw_X7_freeFor : Cond.instanceMethod Y_X7_freeFor.1 ∈ tbG ∧ Cond.selects Y_X7_freeFor.1.cls Y_X7_freeFor.1 Y_X7_freeFor.1 ∈ tbG ∧ Cond.initialized Y_X7_freeFor.1.cls ∈ tbG ∧ Cond.code Y_X7_freeFor.1 Y_X7_freeFor.2.1 Y_X7_freeFor.2.2.1 Y_X7_freeFor.2.2.2 ∈ tbG := ⟨tb_at 301 (by decide +kernel) rfl, tb_at 302 (by decide +kernel) rfl, tb_at 68 (by decide +kernel) rfl, tb_at 303 (rfl) rfl⟩
set_option maxRecDepth 100000 in
theorem mw_X7_blocksWith : Cond.instanceMethod Y_X7_blocksWith.1 ∈ tbG ∧ Cond.selects Y_X7_blocksWith.1.cls Y_X7_blocksWith.1 Y_X7_blocksWith.1 ∈ tbG ∧ Cond.initialized Y_X7_blocksWith.1.cls ∈ tbG ∧ Cond.code Y_X7_blocksWith.1 Y_X7_blocksWith.2.1 Y_X7_blocksWith.2.2.1 Y_X7_blocksWith.2.2.2 ∈ tbG := ⟨tb_at 882 (by decide +kernel) rfl, tb_at 883 (by decide +kernel) rfl, tb_at 68 (by decide +kernel) rfl, tb_at 884 (rfl) rfl⟩
set_option maxRecDepth 100000 in
theorem mw_X7_alike : Cond.instanceMethod Y_X7_alike.1 ∈ tbG ∧ Cond.selects Y_X7_alike.1.cls Y_X7_alike.1 Y_X7_alike.1 ∈ tbG ∧ Cond.initialized Y_X7_alike.1.cls ∈ tbG ∧ Cond.code Y_X7_alike.1 Y_X7_alike.2.1 Y_X7_alike.2.2.1 Y_X7_alike.2.2.2 ∈ tbG := ⟨tb_at 894 (by decide +kernel) rfl, tb_at 895 (by decide +kernel) rfl, tb_at 68 (by decide +kernel) rfl, tb_at 896 (rfl) rfl⟩
set_option maxRecDepth 100000 in
theorem mw_X7_unlikeBlocks : Cond.instanceMethod Y_X7_unlikeBlocks.1 ∈ tbG ∧ Cond.selects Y_X7_unlikeBlocks.1.cls Y_X7_unlikeBlocks.1 Y_X7_unlikeBlocks.1 ∈ tbG ∧ Cond.initialized Y_X7_unlikeBlocks.1.cls ∈ tbG ∧ Cond.code Y_X7_unlikeBlocks.1 Y_X7_unlikeBlocks.2.1 Y_X7_unlikeBlocks.2.2.1 Y_X7_unlikeBlocks.2.2.2 ∈ tbG := ⟨tb_at 306 (by decide +kernel) rfl, tb_at 307 (by decide +kernel) rfl, tb_at 68 (by decide +kernel) rfl, tb_at 308 (rfl) rfl⟩
set_option maxRecDepth 100000 in
theorem mw_X7_type : Cond.instanceMethod Y_X7_type.1 ∈ tbG ∧ Cond.selects Y_X7_type.1.cls Y_X7_type.1 Y_X7_type.1 ∈ tbG ∧ Cond.initialized Y_X7_type.1.cls ∈ tbG ∧ Cond.code Y_X7_type.1 Y_X7_type.2.1 Y_X7_type.2.2.1 Y_X7_type.2.2.2 ∈ tbG := ⟨tb_at 901 (by decide +kernel) rfl, tb_at 902 (by decide +kernel) rfl, tb_at 68 (by decide +kernel) rfl, tb_at 903 (rfl) rfl⟩
set_option maxRecDepth 100000 in
theorem mw_X7_clearCommands : Cond.instanceMethod Y_X7_clearCommands.1 ∈ tbG ∧ Cond.selects Y_X7_clearCommands.1.cls Y_X7_clearCommands.1 Y_X7_clearCommands.1 ∈ tbG ∧ Cond.initialized Y_X7_clearCommands.1.cls ∈ tbG ∧ Cond.code Y_X7_clearCommands.1 Y_X7_clearCommands.2.1 Y_X7_clearCommands.2.2.1 Y_X7_clearCommands.2.2.2 ∈ tbG := ⟨tb_at 355 (by decide +kernel) rfl, tb_at 356 (by decide +kernel) rfl, tb_at 68 (by decide +kernel) rfl, tb_at 357 (rfl) rfl⟩
set_option maxRecDepth 100000 in
theorem mw_X7_runCommands : Cond.instanceMethod Y_X7_runCommands.1 ∈ tbG ∧ Cond.selects Y_X7_runCommands.1.cls Y_X7_runCommands.1 Y_X7_runCommands.1 ∈ tbG ∧ Cond.initialized Y_X7_runCommands.1.cls ∈ tbG ∧ Cond.code Y_X7_runCommands.1 Y_X7_runCommands.2.1 Y_X7_runCommands.2.2.1 Y_X7_runCommands.2.2.2 ∈ tbG := ⟨tb_at 359 (by decide +kernel) rfl, tb_at 360 (by decide +kernel) rfl, tb_at 68 (by decide +kernel) rfl, tb_at 361 (rfl) rfl⟩
set_option maxRecDepth 100000 in
theorem mw_X7_undo : Cond.instanceMethod Y_X7_undo.1 ∈ tbG ∧ Cond.selects Y_X7_undo.1.cls Y_X7_undo.1 Y_X7_undo.1 ∈ tbG ∧ Cond.initialized Y_X7_undo.1.cls ∈ tbG ∧ Cond.code Y_X7_undo.1 Y_X7_undo.2.1 Y_X7_undo.2.2.1 Y_X7_undo.2.2.2 ∈ tbG := ⟨tb_at 914 (by decide +kernel) rfl, tb_at 915 (by decide +kernel) rfl, tb_at 68 (by decide +kernel) rfl, tb_at 916 (rfl) rfl⟩
set_option maxRecDepth 100000 in
theorem mw_X7_digest : Cond.instanceMethod Y_X7_digest.1 ∈ tbG ∧ Cond.selects Y_X7_digest.1.cls Y_X7_digest.1 Y_X7_digest.1 ∈ tbG ∧ Cond.initialized Y_X7_digest.1.cls ∈ tbG ∧ Cond.code Y_X7_digest.1 Y_X7_digest.2.1 Y_X7_digest.2.2.1 Y_X7_digest.2.2.2 ∈ tbG := ⟨tb_at 574 (by decide +kernel) rfl, tb_at 575 (by decide +kernel) rfl, tb_at 68 (by decide +kernel) rfl, tb_at 576 (rfl) rfl⟩
set_option maxRecDepth 100000 in
theorem mw_X7_mixed : Cond.static Y_X7_mixed.1 ∈ tbG ∧ Cond.initialized Y_X7_mixed.1.cls ∈ tbG ∧ Cond.code Y_X7_mixed.1 Y_X7_mixed.2.1 Y_X7_mixed.2.2.1 Y_X7_mixed.2.2.2 ∈ tbG := ⟨tb_at 579 (by decide +kernel) rfl, tb_at 68 (by decide +kernel) rfl, tb_at 580 (rfl) rfl⟩
set_option maxRecDepth 100000 in
theorem mw_X7_mixedWithPlaces : Cond.instanceMethod Y_X7_mixedWithPlaces.1 ∈ tbG ∧ Cond.selects Y_X7_mixedWithPlaces.1.cls Y_X7_mixedWithPlaces.1 Y_X7_mixedWithPlaces.1 ∈ tbG ∧ Cond.initialized Y_X7_mixedWithPlaces.1.cls ∈ tbG ∧ Cond.code Y_X7_mixedWithPlaces.1 Y_X7_mixedWithPlaces.2.1 Y_X7_mixedWithPlaces.2.2.1 Y_X7_mixedWithPlaces.2.2.2 ∈ tbG := ⟨tb_at 700 (by decide +kernel) rfl, tb_at 27 (by decide +kernel) rfl, tb_at 68 (by decide +kernel) rfl, tb_at 701 (rfl) rfl⟩
set_option maxRecDepth 100000 in
theorem mw_X7_mixedWithParts : Cond.instanceMethod Y_X7_mixedWithParts.1 ∈ tbG ∧ Cond.selects Y_X7_mixedWithParts.1.cls Y_X7_mixedWithParts.1 Y_X7_mixedWithParts.1 ∈ tbG ∧ Cond.initialized Y_X7_mixedWithParts.1.cls ∈ tbG ∧ Cond.code Y_X7_mixedWithParts.1 Y_X7_mixedWithParts.2.1 Y_X7_mixedWithParts.2.2.1 Y_X7_mixedWithParts.2.2.2 ∈ tbG := ⟨tb_at 729 (by decide +kernel) rfl, tb_at 28 (by decide +kernel) rfl, tb_at 68 (by decide +kernel) rfl, tb_at 730 (rfl) rfl⟩
set_option maxRecDepth 100000 in
theorem mw_X7_bitsOf : Cond.static Y_X7_bitsOf.1 ∈ tbG ∧ Cond.initialized Y_X7_bitsOf.1.cls ∈ tbG ∧ Cond.code Y_X7_bitsOf.1 Y_X7_bitsOf.2.1 Y_X7_bitsOf.2.2.1 Y_X7_bitsOf.2.2.2 ∈ tbG := ⟨tb_at 762 (by decide +kernel) rfl, tb_at 68 (by decide +kernel) rfl, tb_at 763 (rfl) rfl⟩
set_option maxRecDepth 100000 in
theorem mw_X7_isModulus : Cond.static Y_X7_isModulus.1 ∈ tbG ∧ Cond.initialized Y_X7_isModulus.1.cls ∈ tbG ∧ Cond.code Y_X7_isModulus.1 Y_X7_isModulus.2.1 Y_X7_isModulus.2.2.1 Y_X7_isModulus.2.2.2 ∈ tbG := ⟨tb_at 498 (by decide +kernel) rfl, tb_at 68 (by decide +kernel) rfl, tb_at 499 (rfl) rfl⟩
set_option maxRecDepth 100000 in
theorem mw_X7_isPart : Cond.static Y_X7_isPart.1 ∈ tbG ∧ Cond.initialized Y_X7_isPart.1.cls ∈ tbG ∧ Cond.code Y_X7_isPart.1 Y_X7_isPart.2.1 Y_X7_isPart.2.2.1 Y_X7_isPart.2.2.2 ∈ tbG := ⟨tb_at 532 (by decide +kernel) rfl, tb_at 68 (by decide +kernel) rfl, tb_at 533 (rfl) rfl⟩
set_option maxRecDepth 100000 in
theorem mw_X7_contains : Cond.static Y_X7_contains.1 ∈ tbG ∧ Cond.initialized Y_X7_contains.1.cls ∈ tbG ∧ Cond.code Y_X7_contains.1 Y_X7_contains.2.1 Y_X7_contains.2.2.1 Y_X7_contains.2.2.2 ∈ tbG := ⟨tb_at 273 (by decide +kernel) rfl, tb_at 68 (by decide +kernel) rfl, tb_at 274 (rfl) rfl⟩
set_option maxRecDepth 100000 in
theorem mw_X7_countLaidParts : Cond.instanceMethod Y_X7_countLaidParts.1 ∈ tbG ∧ Cond.selects Y_X7_countLaidParts.1.cls Y_X7_countLaidParts.1 Y_X7_countLaidParts.1 ∈ tbG ∧ Cond.initialized Y_X7_countLaidParts.1.cls ∈ tbG ∧ Cond.code Y_X7_countLaidParts.1 Y_X7_countLaidParts.2.1 Y_X7_countLaidParts.2.2.1 Y_X7_countLaidParts.2.2.2 ∈ tbG := ⟨tb_at 610 (by decide +kernel) rfl, tb_at 24 (by decide +kernel) rfl, tb_at 68 (by decide +kernel) rfl, tb_at 611 (rfl) rfl⟩
set_option maxRecDepth 100000 in
theorem mw_X7_countGoodParts : Cond.instanceMethod Y_X7_countGoodParts.1 ∈ tbG ∧ Cond.selects Y_X7_countGoodParts.1.cls Y_X7_countGoodParts.1 Y_X7_countGoodParts.1 ∈ tbG ∧ Cond.initialized Y_X7_countGoodParts.1.cls ∈ tbG ∧ Cond.code Y_X7_countGoodParts.1 Y_X7_countGoodParts.2.1 Y_X7_countGoodParts.2.2.1 Y_X7_countGoodParts.2.2.2 ∈ tbG := ⟨tb_at 618 (by decide +kernel) rfl, tb_at 25 (by decide +kernel) rfl, tb_at 68 (by decide +kernel) rfl, tb_at 619 (rfl) rfl⟩
set_option maxRecDepth 100000 in
theorem mw_X7_canLaySplit : Cond.instanceMethod Y_X7_canLaySplit.1 ∈ tbG ∧ Cond.selects Y_X7_canLaySplit.1.cls Y_X7_canLaySplit.1 Y_X7_canLaySplit.1 ∈ tbG ∧ Cond.initialized Y_X7_canLaySplit.1.cls ∈ tbG ∧ Cond.code Y_X7_canLaySplit.1 Y_X7_canLaySplit.2.1 Y_X7_canLaySplit.2.2.1 Y_X7_canLaySplit.2.2.2 ∈ tbG := ⟨tb_at 536 (by decide +kernel) rfl, tb_at 20 (by decide +kernel) rfl, tb_at 68 (by decide +kernel) rfl, tb_at 537 (rfl) rfl⟩
set_option maxRecDepth 100000 in
theorem mw_X7_laySplitNow : Cond.instanceMethod Y_X7_laySplitNow.1 ∈ tbG ∧ Cond.selects Y_X7_laySplitNow.1.cls Y_X7_laySplitNow.1 Y_X7_laySplitNow.1 ∈ tbG ∧ Cond.initialized Y_X7_laySplitNow.1.cls ∈ tbG ∧ Cond.code Y_X7_laySplitNow.1 Y_X7_laySplitNow.2.1 Y_X7_laySplitNow.2.2.1 Y_X7_laySplitNow.2.2.2 ∈ tbG := ⟨tb_at 563 (by decide +kernel) rfl, tb_at 23 (by decide +kernel) rfl, tb_at 68 (by decide +kernel) rfl, tb_at 564 (rfl) rfl⟩
set_option maxRecDepth 100000 in
theorem mw_X7_carryOut : Cond.instanceMethod Y_X7_carryOut.1 ∈ tbG ∧ Cond.selects Y_X7_carryOut.1.cls Y_X7_carryOut.1 Y_X7_carryOut.1 ∈ tbG ∧ Cond.initialized Y_X7_carryOut.1.cls ∈ tbG ∧ Cond.code Y_X7_carryOut.1 Y_X7_carryOut.2.1 Y_X7_carryOut.2.2.1 Y_X7_carryOut.2.2.2 ∈ tbG := ⟨tb_at 483 (by decide +kernel) rfl, tb_at 15 (by decide +kernel) rfl, tb_at 68 (by decide +kernel) rfl, tb_at 484 (rfl) rfl⟩
set_option maxRecDepth 100000 in
theorem mw_X7_runGroup : Cond.instanceMethod Y_X7_runGroup.1 ∈ tbG ∧ Cond.selects Y_X7_runGroup.1.cls Y_X7_runGroup.1 Y_X7_runGroup.1 ∈ tbG ∧ Cond.initialized Y_X7_runGroup.1.cls ∈ tbG ∧ Cond.code Y_X7_runGroup.1 Y_X7_runGroup.2.1 Y_X7_runGroup.2.2.1 Y_X7_runGroup.2.2.2 ∈ tbG := ⟨tb_at 495 (by decide +kernel) rfl, tb_at 16 (by decide +kernel) rfl, tb_at 68 (by decide +kernel) rfl, tb_at 496 (rfl) rfl⟩
set_option maxRecDepth 100000 in
theorem mw_X7_runAdd : Cond.instanceMethod Y_X7_runAdd.1 ∈ tbG ∧ Cond.selects Y_X7_runAdd.1.cls Y_X7_runAdd.1 Y_X7_runAdd.1 ∈ tbG ∧ Cond.initialized Y_X7_runAdd.1.cls ∈ tbG ∧ Cond.code Y_X7_runAdd.1 Y_X7_runAdd.2.1 Y_X7_runAdd.2.2.1 Y_X7_runAdd.2.2.2 ∈ tbG := ⟨tb_at 506 (by decide +kernel) rfl, tb_at 17 (by decide +kernel) rfl, tb_at 68 (by decide +kernel) rfl, tb_at 507 (rfl) rfl⟩
set_option maxRecDepth 100000 in
theorem mw_X7_runMinus : Cond.instanceMethod Y_X7_runMinus.1 ∈ tbG ∧ Cond.selects Y_X7_runMinus.1.cls Y_X7_runMinus.1 Y_X7_runMinus.1 ∈ tbG ∧ Cond.initialized Y_X7_runMinus.1.cls ∈ tbG ∧ Cond.code Y_X7_runMinus.1 Y_X7_runMinus.2.1 Y_X7_runMinus.2.2.1 Y_X7_runMinus.2.2.2 ∈ tbG := ⟨tb_at 516 (by decide +kernel) rfl, tb_at 18 (by decide +kernel) rfl, tb_at 68 (by decide +kernel) rfl, tb_at 517 (rfl) rfl⟩
set_option maxRecDepth 100000 in
theorem mw_X7_runLay : Cond.instanceMethod Y_X7_runLay.1 ∈ tbG ∧ Cond.selects Y_X7_runLay.1.cls Y_X7_runLay.1 Y_X7_runLay.1 ∈ tbG ∧ Cond.initialized Y_X7_runLay.1.cls ∈ tbG ∧ Cond.code Y_X7_runLay.1 Y_X7_runLay.2.1 Y_X7_runLay.2.2.1 Y_X7_runLay.2.2.2 ∈ tbG := ⟨tb_at 529 (by decide +kernel) rfl, tb_at 19 (by decide +kernel) rfl, tb_at 68 (by decide +kernel) rfl, tb_at 530 (rfl) rfl⟩
set_option maxRecDepth 100000 in
theorem mw_X8_thrown : Cond.instanceMethod Y_X8_thrown.1 ∈ tbG ∧ Cond.selects Y_X8_thrown.1.cls Y_X8_thrown.1 Y_X8_thrown.1 ∈ tbG ∧ Cond.initialized Y_X8_thrown.1.cls ∈ tbG ∧ Cond.code Y_X8_thrown.1 Y_X8_thrown.2.1 Y_X8_thrown.2.2.1 Y_X8_thrown.2.2.2 ∈ tbG := ⟨tb_at 985 (by decide +kernel) rfl, tb_at 986 (by decide +kernel) rfl, tb_at 74 (by decide +kernel) rfl, tb_at 987 (rfl) rfl⟩
set_option maxRecDepth 100000 in
theorem mw_X8_refused : Cond.instanceMethod Y_X8_refused.1 ∈ tbG ∧ Cond.selects Y_X8_refused.1.cls Y_X8_refused.1 Y_X8_refused.1 ∈ tbG ∧ Cond.initialized Y_X8_refused.1.cls ∈ tbG ∧ Cond.code Y_X8_refused.1 Y_X8_refused.2.1 Y_X8_refused.2.2.1 Y_X8_refused.2.2.2 ∈ tbG := ⟨tb_at 994 (by decide +kernel) rfl, tb_at 29 (by decide +kernel) rfl, tb_at 74 (by decide +kernel) rfl, tb_at 995 (rfl) rfl⟩
set_option maxRecDepth 100000 in
theorem mw_X8_within : Cond.static Y_X8_within.1 ∈ tbG ∧ Cond.initialized Y_X8_within.1.cls ∈ tbG ∧ Cond.code Y_X8_within.1 Y_X8_within.2.1 Y_X8_within.2.2.1 Y_X8_within.2.2.2 ∈ tbG := ⟨tb_at 1001 (by decide +kernel) rfl, tb_at 74 (by decide +kernel) rfl, tb_at 1002 (rfl) rfl⟩
set_option maxRecDepth 100000 in
theorem mw_X8_saves : Cond.instanceMethod Y_X8_saves.1 ∈ tbG ∧ Cond.selects Y_X8_saves.1.cls Y_X8_saves.1 Y_X8_saves.1 ∈ tbG ∧ Cond.initialized Y_X8_saves.1.cls ∈ tbG ∧ Cond.code Y_X8_saves.1 Y_X8_saves.2.1 Y_X8_saves.2.2.1 Y_X8_saves.2.2.2 ∈ tbG := ⟨tb_at 1005 (by decide +kernel) rfl, tb_at 30 (by decide +kernel) rfl, tb_at 74 (by decide +kernel) rfl, tb_at 1006 (rfl) rfl⟩
set_option maxRecDepth 100000 in
theorem mw_X8_undo : Cond.instanceMethod Y_X8_undo.1 ∈ tbG ∧ Cond.selects Y_X8_undo.1.cls Y_X8_undo.1 Y_X8_undo.1 ∈ tbG ∧ Cond.initialized Y_X8_undo.1.cls ∈ tbG ∧ Cond.code Y_X8_undo.1 Y_X8_undo.2.1 Y_X8_undo.2.2.1 Y_X8_undo.2.2.2 ∈ tbG := ⟨tb_at 989 (by decide +kernel) rfl, tb_at 990 (by decide +kernel) rfl, tb_at 74 (by decide +kernel) rfl, tb_at 991 (rfl) rfl⟩
set_option maxRecDepth 100000 in
theorem mw_X8_size : Cond.instanceMethod Y_X8_size.1 ∈ tbG ∧ Cond.selects Y_X8_size.1.cls Y_X8_size.1 Y_X8_size.1 ∈ tbG ∧ Cond.initialized Y_X8_size.1.cls ∈ tbG ∧ Cond.code Y_X8_size.1 Y_X8_size.2.1 Y_X8_size.2.2.1 Y_X8_size.2.2.2 ∈ tbG := ⟨tb_at 1009 (by decide +kernel) rfl, tb_at 31 (by decide +kernel) rfl, tb_at 74 (by decide +kernel) rfl, tb_at 1010 (rfl) rfl⟩
set_option maxRecDepth 100000 in
theorem mw_X8_isElement : Cond.instanceMethod Y_X8_isElement.1 ∈ tbG ∧ Cond.selects Y_X8_isElement.1.cls Y_X8_isElement.1 Y_X8_isElement.1 ∈ tbG ∧ Cond.initialized Y_X8_isElement.1.cls ∈ tbG ∧ Cond.code Y_X8_isElement.1 Y_X8_isElement.2.1 Y_X8_isElement.2.2.1 Y_X8_isElement.2.2.2 ∈ tbG := ⟨tb_at 1017 (by decide +kernel) rfl, tb_at 32 (by decide +kernel) rfl, tb_at 74 (by decide +kernel) rfl, tb_at 1018 (rfl) rfl⟩
set_option maxRecDepth 100000 in
theorem mw_X8_plus : Cond.instanceMethod Y_X8_plus.1 ∈ tbG ∧ Cond.selects Y_X8_plus.1.cls Y_X8_plus.1 Y_X8_plus.1 ∈ tbG ∧ Cond.initialized Y_X8_plus.1.cls ∈ tbG ∧ Cond.code Y_X8_plus.1 Y_X8_plus.2.1 Y_X8_plus.2.2.1 Y_X8_plus.2.2.2 ∈ tbG := ⟨tb_at 1021 (by decide +kernel) rfl, tb_at 33 (by decide +kernel) rfl, tb_at 74 (by decide +kernel) rfl, tb_at 1022 (rfl) rfl⟩
set_option maxRecDepth 100000 in
theorem mw_X8_orderOf : Cond.instanceMethod Y_X8_orderOf.1 ∈ tbG ∧ Cond.selects Y_X8_orderOf.1.cls Y_X8_orderOf.1 Y_X8_orderOf.1 ∈ tbG ∧ Cond.initialized Y_X8_orderOf.1.cls ∈ tbG ∧ Cond.code Y_X8_orderOf.1 Y_X8_orderOf.2.1 Y_X8_orderOf.2.2.1 Y_X8_orderOf.2.2.2 ∈ tbG := ⟨tb_at 1111 (by decide +kernel) rfl, tb_at 45 (by decide +kernel) rfl, tb_at 74 (by decide +kernel) rfl, tb_at 1112 (rfl) rfl⟩
set_option maxRecDepth 100000 in
theorem mw_X8_lessOf : Cond.instanceMethod Y_X8_lessOf.1 ∈ tbG ∧ Cond.selects Y_X8_lessOf.1.cls Y_X8_lessOf.1 Y_X8_lessOf.1 ∈ tbG ∧ Cond.initialized Y_X8_lessOf.1.cls ∈ tbG ∧ Cond.code Y_X8_lessOf.1 Y_X8_lessOf.2.1 Y_X8_lessOf.2.2.1 Y_X8_lessOf.2.2.2 ∈ tbG := ⟨tb_at 1115 (by decide +kernel) rfl, tb_at 46 (by decide +kernel) rfl, tb_at 74 (by decide +kernel) rfl, tb_at 1116 (rfl) rfl⟩
set_option maxRecDepth 100000 in
theorem mw_X8_exponent : Cond.instanceMethod Y_X8_exponent.1 ∈ tbG ∧ Cond.selects Y_X8_exponent.1.cls Y_X8_exponent.1 Y_X8_exponent.1 ∈ tbG ∧ Cond.initialized Y_X8_exponent.1.cls ∈ tbG ∧ Cond.code Y_X8_exponent.1 Y_X8_exponent.2.1 Y_X8_exponent.2.2.1 Y_X8_exponent.2.2.2 ∈ tbG := ⟨tb_at 1147 (by decide +kernel) rfl, tb_at 51 (by decide +kernel) rfl, tb_at 74 (by decide +kernel) rfl, tb_at 1148 (rfl) rfl⟩
set_option maxRecDepth 100000 in
theorem mw_X8_begin : Cond.instanceMethod Y_X8_begin.1 ∈ tbG ∧ Cond.selects Y_X8_begin.1.cls Y_X8_begin.1 Y_X8_begin.1 ∈ tbG ∧ Cond.initialized Y_X8_begin.1.cls ∈ tbG ∧ Cond.code Y_X8_begin.1 Y_X8_begin.2.1 Y_X8_begin.2.2.1 Y_X8_begin.2.2.2 ∈ tbG := ⟨tb_at 997 (by decide +kernel) rfl, tb_at 998 (by decide +kernel) rfl, tb_at 74 (by decide +kernel) rfl, tb_at 999 (rfl) rfl⟩
set_option maxRecDepth 100000 in
theorem mw_X8_sum : Cond.instanceMethod Y_X8_sum.1 ∈ tbG ∧ Cond.selects Y_X8_sum.1.cls Y_X8_sum.1 Y_X8_sum.1 ∈ tbG ∧ Cond.initialized Y_X8_sum.1.cls ∈ tbG ∧ Cond.code Y_X8_sum.1 Y_X8_sum.2.1 Y_X8_sum.2.2.1 Y_X8_sum.2.2.2 ∈ tbG := ⟨tb_at 1012 (by decide +kernel) rfl, tb_at 1013 (by decide +kernel) rfl, tb_at 74 (by decide +kernel) rfl, tb_at 1014 (rfl) rfl⟩
set_option maxRecDepth 100000 in
theorem mw_X8_bound : Cond.instanceMethod Y_X8_bound.1 ∈ tbG ∧ Cond.selects Y_X8_bound.1.cls Y_X8_bound.1 Y_X8_bound.1 ∈ tbG ∧ Cond.initialized Y_X8_bound.1.cls ∈ tbG ∧ Cond.code Y_X8_bound.1 Y_X8_bound.2.1 Y_X8_bound.2.2.1 Y_X8_bound.2.2.2 ∈ tbG := ⟨tb_at 1024 (by decide +kernel) rfl, tb_at 1025 (by decide +kernel) rfl, tb_at 74 (by decide +kernel) rfl, tb_at 1026 (rfl) rfl⟩
set_option maxRecDepth 100000 in
theorem mw_X8_isPlace : Cond.instanceMethod Y_X8_isPlace.1 ∈ tbG ∧ Cond.selects Y_X8_isPlace.1.cls Y_X8_isPlace.1 Y_X8_isPlace.1 ∈ tbG ∧ Cond.initialized Y_X8_isPlace.1.cls ∈ tbG ∧ Cond.code Y_X8_isPlace.1 Y_X8_isPlace.2.1 Y_X8_isPlace.2.2.1 Y_X8_isPlace.2.2.2 ∈ tbG := ⟨tb_at 1037 (by decide +kernel) rfl, tb_at 34 (by decide +kernel) rfl, tb_at 74 (by decide +kernel) rfl, tb_at 1038 (rfl) rfl⟩
set_option maxRecDepth 100000 in
theorem mw_X8_add : Cond.instanceMethod Y_X8_add.1 ∈ tbG ∧ Cond.selects Y_X8_add.1.cls Y_X8_add.1 Y_X8_add.1 ∈ tbG ∧ Cond.initialized Y_X8_add.1.cls ∈ tbG ∧ Cond.code Y_X8_add.1 Y_X8_add.2.1 Y_X8_add.2.2.1 Y_X8_add.2.2.2 ∈ tbG := ⟨tb_at 1028 (by decide +kernel) rfl, tb_at 1029 (by decide +kernel) rfl, tb_at 74 (by decide +kernel) rfl, tb_at 1030 (rfl) rfl⟩
set_option maxRecDepth 100000 in
theorem mw_X8_removeAt : Cond.instanceMethod Y_X8_removeAt.1 ∈ tbG ∧ Cond.selects Y_X8_removeAt.1.cls Y_X8_removeAt.1 Y_X8_removeAt.1 ∈ tbG ∧ Cond.initialized Y_X8_removeAt.1.cls ∈ tbG ∧ Cond.code Y_X8_removeAt.1 Y_X8_removeAt.2.1 Y_X8_removeAt.2.2.1 Y_X8_removeAt.2.2.2 ∈ tbG := ⟨tb_at 1032 (by decide +kernel) rfl, tb_at 1033 (by decide +kernel) rfl, tb_at 74 (by decide +kernel) rfl, tb_at 1034 (rfl) rfl⟩
set_option maxRecDepth 100000 in
theorem mw_X8_lay : Cond.instanceMethod Y_X8_lay.1 ∈ tbG ∧ Cond.selects Y_X8_lay.1.cls Y_X8_lay.1 Y_X8_lay.1 ∈ tbG ∧ Cond.initialized Y_X8_lay.1.cls ∈ tbG ∧ Cond.code Y_X8_lay.1 Y_X8_lay.2.1 Y_X8_lay.2.2.1 Y_X8_lay.2.2.2 ∈ tbG := ⟨tb_at 1040 (by decide +kernel) rfl, tb_at 1041 (by decide +kernel) rfl, tb_at 74 (by decide +kernel) rfl, tb_at 1042 (rfl) rfl⟩
set_option maxRecDepth 100000 in
theorem mw_X8_has : Cond.static Y_X8_has.1 ∈ tbG ∧ Cond.initialized Y_X8_has.1.cls ∈ tbG ∧ Cond.code Y_X8_has.1 Y_X8_has.2.1 Y_X8_has.2.2.1 Y_X8_has.2.2.2 ∈ tbG := ⟨tb_at 1052 (by decide +kernel) rfl, tb_at 74 (by decide +kernel) rfl, tb_at 1053 (rfl) rfl⟩
set_option maxRecDepth 100000 in
theorem mw_X8_bits : Cond.static Y_X8_bits.1 ∈ tbG ∧ Cond.initialized Y_X8_bits.1.cls ∈ tbG ∧ Cond.code Y_X8_bits.1 Y_X8_bits.2.1 Y_X8_bits.2.2.1 Y_X8_bits.2.2.2 ∈ tbG := ⟨tb_at 1087 (by decide +kernel) rfl, tb_at 74 (by decide +kernel) rfl, tb_at 1088 (rfl) rfl⟩
set_option maxRecDepth 100000 in
theorem mw_X8_looks : Cond.instanceMethod Y_X8_looks.1 ∈ tbG ∧ Cond.selects Y_X8_looks.1.cls Y_X8_looks.1 Y_X8_looks.1 ∈ tbG ∧ Cond.initialized Y_X8_looks.1.cls ∈ tbG ∧ Cond.code Y_X8_looks.1 Y_X8_looks.2.1 Y_X8_looks.2.2.1 Y_X8_looks.2.2.2 ∈ tbG := ⟨tb_at 1049 (by decide +kernel) rfl, tb_at 35 (by decide +kernel) rfl, tb_at 74 (by decide +kernel) rfl, tb_at 1050 (rfl) rfl⟩
set_option maxRecDepth 100000 in
theorem mw_X8_isBlock : Cond.instanceMethod Y_X8_isBlock.1 ∈ tbG ∧ Cond.selects Y_X8_isBlock.1.cls Y_X8_isBlock.1 Y_X8_isBlock.1 ∈ tbG ∧ Cond.initialized Y_X8_isBlock.1.cls ∈ tbG ∧ Cond.code Y_X8_isBlock.1 Y_X8_isBlock.2.1 Y_X8_isBlock.2.2.1 Y_X8_isBlock.2.2.2 ∈ tbG := ⟨tb_at 1064 (by decide +kernel) rfl, tb_at 38 (by decide +kernel) rfl, tb_at 74 (by decide +kernel) rfl, tb_at 1065 (rfl) rfl⟩
set_option maxRecDepth 100000 in
theorem mw_X8_isIn : Cond.instanceMethod Y_X8_isIn.1 ∈ tbG ∧ Cond.selects Y_X8_isIn.1.cls Y_X8_isIn.1 Y_X8_isIn.1 ∈ tbG ∧ Cond.initialized Y_X8_isIn.1.cls ∈ tbG ∧ Cond.code Y_X8_isIn.1 Y_X8_isIn.2.1 Y_X8_isIn.2.2.1 Y_X8_isIn.2.2.2 ∈ tbG := ⟨tb_at 1060 (by decide +kernel) rfl, tb_at 37 (by decide +kernel) rfl, tb_at 74 (by decide +kernel) rfl, tb_at 1061 (rfl) rfl⟩
set_option maxRecDepth 100000 in
theorem mw_X8_splitsAll : Cond.instanceMethod Y_X8_splitsAll.1 ∈ tbG ∧ Cond.selects Y_X8_splitsAll.1.cls Y_X8_splitsAll.1 Y_X8_splitsAll.1 ∈ tbG ∧ Cond.initialized Y_X8_splitsAll.1.cls ∈ tbG ∧ Cond.code Y_X8_splitsAll.1 Y_X8_splitsAll.2.1 Y_X8_splitsAll.2.2.1 Y_X8_splitsAll.2.2.2 ∈ tbG := ⟨tb_at 1056 (by decide +kernel) rfl, tb_at 36 (by decide +kernel) rfl, tb_at 74 (by decide +kernel) rfl, tb_at 1057 (rfl) rfl⟩
set_option maxRecDepth 100000 in
theorem mw_X8_most : Cond.instanceMethod Y_X8_most.1 ∈ tbG ∧ Cond.selects Y_X8_most.1.cls Y_X8_most.1 Y_X8_most.1 ∈ tbG ∧ Cond.initialized Y_X8_most.1.cls ∈ tbG ∧ Cond.code Y_X8_most.1 Y_X8_most.2.1 Y_X8_most.2.2.1 Y_X8_most.2.2.2 ∈ tbG := ⟨tb_at 1072 (by decide +kernel) rfl, tb_at 40 (by decide +kernel) rfl, tb_at 74 (by decide +kernel) rfl, tb_at 1073 (rfl) rfl⟩
set_option maxRecDepth 100000 in
theorem mw_X8_all : Cond.instanceMethod Y_X8_all.1 ∈ tbG ∧ Cond.selects Y_X8_all.1.cls Y_X8_all.1 Y_X8_all.1 ∈ tbG ∧ Cond.initialized Y_X8_all.1.cls ∈ tbG ∧ Cond.code Y_X8_all.1 Y_X8_all.2.1 Y_X8_all.2.2.1 Y_X8_all.2.2.2 ∈ tbG := ⟨tb_at 1068 (by decide +kernel) rfl, tb_at 39 (by decide +kernel) rfl, tb_at 74 (by decide +kernel) rfl, tb_at 1069 (rfl) rfl⟩
set_option maxRecDepth 100000 in
theorem mw_X8_laySplit : Cond.instanceMethod Y_X8_laySplit.1 ∈ tbG ∧ Cond.selects Y_X8_laySplit.1.cls Y_X8_laySplit.1 Y_X8_laySplit.1 ∈ tbG ∧ Cond.initialized Y_X8_laySplit.1.cls ∈ tbG ∧ Cond.code Y_X8_laySplit.1 Y_X8_laySplit.2.1 Y_X8_laySplit.2.2.1 Y_X8_laySplit.2.2.2 ∈ tbG := ⟨tb_at 1044 (by decide +kernel) rfl, tb_at 1045 (by decide +kernel) rfl, tb_at 74 (by decide +kernel) rfl, tb_at 1046 (rfl) rfl⟩
set_option maxRecDepth 100000 in
theorem mw_X8_blocksIn : Cond.instanceMethod Y_X8_blocksIn.1 ∈ tbG ∧ Cond.selects Y_X8_blocksIn.1.cls Y_X8_blocksIn.1 Y_X8_blocksIn.1 ∈ tbG ∧ Cond.initialized Y_X8_blocksIn.1.cls ∈ tbG ∧ Cond.code Y_X8_blocksIn.1 Y_X8_blocksIn.2.1 Y_X8_blocksIn.2.2.1 Y_X8_blocksIn.2.2.2 ∈ tbG := ⟨tb_at 1091 (by decide +kernel) rfl, tb_at 43 (by decide +kernel) rfl, tb_at 74 (by decide +kernel) rfl, tb_at 1092 (rfl) rfl⟩
set_option maxRecDepth 100000 in
theorem mw_X8_isSet : Cond.instanceMethod Y_X8_isSet.1 ∈ tbG ∧ Cond.selects Y_X8_isSet.1.cls Y_X8_isSet.1 Y_X8_isSet.1 ∈ tbG ∧ Cond.initialized Y_X8_isSet.1.cls ∈ tbG ∧ Cond.code Y_X8_isSet.1 Y_X8_isSet.2.1 Y_X8_isSet.2.2.1 Y_X8_isSet.2.2.2 ∈ tbG := ⟨tb_at 1080 (by decide +kernel) rfl, tb_at 41 (by decide +kernel) rfl, tb_at 74 (by decide +kernel) rfl, tb_at 1081 (rfl) rfl⟩
set_option maxRecDepth 100000 in
theorem mw_X8_setTells : Cond.instanceMethod Y_X8_setTells.1 ∈ tbG ∧ Cond.selects Y_X8_setTells.1.cls Y_X8_setTells.1 Y_X8_setTells.1 ∈ tbG ∧ Cond.initialized Y_X8_setTells.1.cls ∈ tbG ∧ Cond.code Y_X8_setTells.1 Y_X8_setTells.2.1 Y_X8_setTells.2.2.1 Y_X8_setTells.2.2.2 ∈ tbG := ⟨tb_at 1084 (by decide +kernel) rfl, tb_at 42 (by decide +kernel) rfl, tb_at 74 (by decide +kernel) rfl, tb_at 1085 (rfl) rfl⟩
set_option maxRecDepth 100000 in
theorem mw_X8_set : Cond.instanceMethod Y_X8_set.1 ∈ tbG ∧ Cond.selects Y_X8_set.1.cls Y_X8_set.1 Y_X8_set.1 ∈ tbG ∧ Cond.initialized Y_X8_set.1.cls ∈ tbG ∧ Cond.code Y_X8_set.1 Y_X8_set.2.1 Y_X8_set.2.2.1 Y_X8_set.2.2.2 ∈ tbG := ⟨tb_at 1075 (by decide +kernel) rfl, tb_at 1076 (by decide +kernel) rfl, tb_at 74 (by decide +kernel) rfl, tb_at 1077 (rfl) rfl⟩
set_option maxRecDepth 100000 in
theorem mw_X8_block : Cond.instanceMethod Y_X8_block.1 ∈ tbG ∧ Cond.selects Y_X8_block.1.cls Y_X8_block.1 Y_X8_block.1 ∈ tbG ∧ Cond.initialized Y_X8_block.1.cls ∈ tbG ∧ Cond.code Y_X8_block.1 Y_X8_block.2.1 Y_X8_block.2.2.1 Y_X8_block.2.2.2 ∈ tbG := ⟨tb_at 1094 (by decide +kernel) rfl, tb_at 1095 (by decide +kernel) rfl, tb_at 74 (by decide +kernel) rfl, tb_at 1096 (rfl) rfl⟩
set_option maxRecDepth 100000 in
theorem mw_X8_sumSet : Cond.instanceMethod Y_X8_sumSet.1 ∈ tbG ∧ Cond.selects Y_X8_sumSet.1.cls Y_X8_sumSet.1 Y_X8_sumSet.1 ∈ tbG ∧ Cond.initialized Y_X8_sumSet.1.cls ∈ tbG ∧ Cond.code Y_X8_sumSet.1 Y_X8_sumSet.2.1 Y_X8_sumSet.2.2.1 Y_X8_sumSet.2.2.2 ∈ tbG := ⟨tb_at 1103 (by decide +kernel) rfl, tb_at 44 (by decide +kernel) rfl, tb_at 74 (by decide +kernel) rfl, tb_at 1104 (rfl) rfl⟩
set_option maxRecDepth 100000 in
theorem mw_X8_sums : Cond.instanceMethod Y_X8_sums.1 ∈ tbG ∧ Cond.selects Y_X8_sums.1.cls Y_X8_sums.1 Y_X8_sums.1 ∈ tbG ∧ Cond.initialized Y_X8_sums.1.cls ∈ tbG ∧ Cond.code Y_X8_sums.1 Y_X8_sums.2.1 Y_X8_sums.2.2.1 Y_X8_sums.2.2.2 ∈ tbG := ⟨tb_at 1098 (by decide +kernel) rfl, tb_at 1099 (by decide +kernel) rfl, tb_at 74 (by decide +kernel) rfl, tb_at 1100 (rfl) rfl⟩
set_option maxRecDepth 100000 in
theorem mw_X8_timesOf : Cond.instanceMethod Y_X8_timesOf.1 ∈ tbG ∧ Cond.selects Y_X8_timesOf.1.cls Y_X8_timesOf.1 Y_X8_timesOf.1 ∈ tbG ∧ Cond.initialized Y_X8_timesOf.1.cls ∈ tbG ∧ Cond.code Y_X8_timesOf.1 Y_X8_timesOf.2.1 Y_X8_timesOf.2.2.1 Y_X8_timesOf.2.2.2 ∈ tbG := ⟨tb_at 1119 (by decide +kernel) rfl, tb_at 47 (by decide +kernel) rfl, tb_at 74 (by decide +kernel) rfl, tb_at 1120 (rfl) rfl⟩
set_option maxRecDepth 100000 in
theorem mw_X8_element : Cond.instanceMethod Y_X8_element.1 ∈ tbG ∧ Cond.selects Y_X8_element.1.cls Y_X8_element.1 Y_X8_element.1 ∈ tbG ∧ Cond.initialized Y_X8_element.1.cls ∈ tbG ∧ Cond.code Y_X8_element.1 Y_X8_element.2.1 Y_X8_element.2.2.1 Y_X8_element.2.2.2 ∈ tbG := ⟨tb_at 1106 (by decide +kernel) rfl, tb_at 1107 (by decide +kernel) rfl, tb_at 74 (by decide +kernel) rfl, tb_at 1108 (rfl) rfl⟩
set_option maxRecDepth 100000 in
theorem mw_X8_blocksAt : Cond.instanceMethod Y_X8_blocksAt.1 ∈ tbG ∧ Cond.selects Y_X8_blocksAt.1.cls Y_X8_blocksAt.1 Y_X8_blocksAt.1 ∈ tbG ∧ Cond.initialized Y_X8_blocksAt.1.cls ∈ tbG ∧ Cond.code Y_X8_blocksAt.1 Y_X8_blocksAt.2.1 Y_X8_blocksAt.2.2.1 Y_X8_blocksAt.2.2.2 ∈ tbG := ⟨tb_at 1127 (by decide +kernel) rfl, tb_at 48 (by decide +kernel) rfl, tb_at 74 (by decide +kernel) rfl, tb_at 1128 (rfl) rfl⟩
set_option maxRecDepth 100000 in
theorem mw_X8_at : Cond.instanceMethod Y_X8_at.1 ∈ tbG ∧ Cond.selects Y_X8_at.1.cls Y_X8_at.1 Y_X8_at.1 ∈ tbG ∧ Cond.initialized Y_X8_at.1.cls ∈ tbG ∧ Cond.code Y_X8_at.1 Y_X8_at.2.1 Y_X8_at.2.2.1 Y_X8_at.2.2.2 ∈ tbG := ⟨tb_at 1122 (by decide +kernel) rfl, tb_at 1123 (by decide +kernel) rfl, tb_at 74 (by decide +kernel) rfl, tb_at 1124 (rfl) rfl⟩
set_option maxRecDepth 100000 in
theorem mw_X8_partSet : Cond.instanceMethod Y_X8_partSet.1 ∈ tbG ∧ Cond.selects Y_X8_partSet.1.cls Y_X8_partSet.1 Y_X8_partSet.1 ∈ tbG ∧ Cond.initialized Y_X8_partSet.1.cls ∈ tbG ∧ Cond.code Y_X8_partSet.1 Y_X8_partSet.2.1 Y_X8_partSet.2.2.1 Y_X8_partSet.2.2.2 ∈ tbG := ⟨tb_at 1135 (by decide +kernel) rfl, tb_at 49 (by decide +kernel) rfl, tb_at 74 (by decide +kernel) rfl, tb_at 1136 (rfl) rfl⟩
set_option maxRecDepth 100000 in
theorem mw_X8_part : Cond.instanceMethod Y_X8_part.1 ∈ tbG ∧ Cond.selects Y_X8_part.1.cls Y_X8_part.1 Y_X8_part.1 ∈ tbG ∧ Cond.initialized Y_X8_part.1.cls ∈ tbG ∧ Cond.code Y_X8_part.1 Y_X8_part.2.1 Y_X8_part.2.2.1 Y_X8_part.2.2.2 ∈ tbG := ⟨tb_at 1130 (by decide +kernel) rfl, tb_at 1131 (by decide +kernel) rfl, tb_at 74 (by decide +kernel) rfl, tb_at 1132 (rfl) rfl⟩
set_option maxRecDepth 100000 in
theorem mw_X8_blockSize : Cond.instanceMethod Y_X8_blockSize.1 ∈ tbG ∧ Cond.selects Y_X8_blockSize.1.cls Y_X8_blockSize.1 Y_X8_blockSize.1 ∈ tbG ∧ Cond.initialized Y_X8_blockSize.1.cls ∈ tbG ∧ Cond.code Y_X8_blockSize.1 Y_X8_blockSize.2.1 Y_X8_blockSize.2.2.1 Y_X8_blockSize.2.2.2 ∈ tbG := ⟨tb_at 1151 (by decide +kernel) rfl, tb_at 52 (by decide +kernel) rfl, tb_at 74 (by decide +kernel) rfl, tb_at 1152 (rfl) rfl⟩
set_option maxRecDepth 100000 in
theorem mw_X8_partsThat : Cond.instanceMethod Y_X8_partsThat.1 ∈ tbG ∧ Cond.selects Y_X8_partsThat.1.cls Y_X8_partsThat.1 Y_X8_partsThat.1 ∈ tbG ∧ Cond.initialized Y_X8_partsThat.1.cls ∈ tbG ∧ Cond.code Y_X8_partsThat.1 Y_X8_partsThat.2.1 Y_X8_partsThat.2.2.1 Y_X8_partsThat.2.2.2 ∈ tbG := ⟨tb_at 1155 (by decide +kernel) rfl, tb_at 53 (by decide +kernel) rfl, tb_at 74 (by decide +kernel) rfl, tb_at 1156 (rfl) rfl⟩
set_option maxRecDepth 100000 in
theorem mw_X8_sumMany : Cond.instanceMethod Y_X8_sumMany.1 ∈ tbG ∧ Cond.selects Y_X8_sumMany.1.cls Y_X8_sumMany.1 Y_X8_sumMany.1 ∈ tbG ∧ Cond.initialized Y_X8_sumMany.1.cls ∈ tbG ∧ Cond.code Y_X8_sumMany.1 Y_X8_sumMany.2.1 Y_X8_sumMany.2.2.1 Y_X8_sumMany.2.2.2 ∈ tbG := ⟨tb_at 1159 (by decide +kernel) rfl, tb_at 54 (by decide +kernel) rfl, tb_at 74 (by decide +kernel) rfl, tb_at 1160 (rfl) rfl⟩
set_option maxRecDepth 100000 in
theorem mw_X8_wholeTells : Cond.instanceMethod Y_X8_wholeTells.1 ∈ tbG ∧ Cond.selects Y_X8_wholeTells.1.cls Y_X8_wholeTells.1 Y_X8_wholeTells.1 ∈ tbG ∧ Cond.initialized Y_X8_wholeTells.1.cls ∈ tbG ∧ Cond.code Y_X8_wholeTells.1 Y_X8_wholeTells.2.1 Y_X8_wholeTells.2.2.1 Y_X8_wholeTells.2.2.2 ∈ tbG := ⟨tb_at 1143 (by decide +kernel) rfl, tb_at 50 (by decide +kernel) rfl, tb_at 74 (by decide +kernel) rfl, tb_at 1144 (rfl) rfl⟩
set_option maxRecDepth 100000 in
theorem mw_X8_whole : Cond.instanceMethod Y_X8_whole.1 ∈ tbG ∧ Cond.selects Y_X8_whole.1.cls Y_X8_whole.1 Y_X8_whole.1 ∈ tbG ∧ Cond.initialized Y_X8_whole.1.cls ∈ tbG ∧ Cond.code Y_X8_whole.1 Y_X8_whole.2.1 Y_X8_whole.2.2.1 Y_X8_whole.2.2.2 ∈ tbG := ⟨tb_at 1138 (by decide +kernel) rfl, tb_at 1139 (by decide +kernel) rfl, tb_at 74 (by decide +kernel) rfl, tb_at 1140 (rfl) rfl⟩
set_option maxRecDepth 100000 in
theorem mw_X8_cross : Cond.instanceMethod Y_X8_cross.1 ∈ tbG ∧ Cond.selects Y_X8_cross.1.cls Y_X8_cross.1 Y_X8_cross.1 ∈ tbG ∧ Cond.initialized Y_X8_cross.1.cls ∈ tbG ∧ Cond.code Y_X8_cross.1 Y_X8_cross.2.1 Y_X8_cross.2.2.1 Y_X8_cross.2.2.2 ∈ tbG := ⟨tb_at 1162 (by decide +kernel) rfl, tb_at 1163 (by decide +kernel) rfl, tb_at 74 (by decide +kernel) rfl, tb_at 1164 (rfl) rfl⟩
set_option maxRecDepth 100000 in
theorem mw_X8_reason : Cond.instanceMethod Y_X8_reason.1 ∈ tbG ∧ Cond.selects Y_X8_reason.1.cls Y_X8_reason.1 Y_X8_reason.1 ∈ tbG ∧ Cond.initialized Y_X8_reason.1.cls ∈ tbG ∧ Cond.code Y_X8_reason.1 Y_X8_reason.2.1 Y_X8_reason.2.2.1 Y_X8_reason.2.2.2 ∈ tbG := ⟨tb_at 1166 (by decide +kernel) rfl, tb_at 1167 (by decide +kernel) rfl, tb_at 74 (by decide +kernel) rfl, tb_at 1168 (rfl) rfl⟩
set_option maxRecDepth 100000 in
theorem mw_X8_with : Cond.instanceMethod Y_X8_with.1 ∈ tbG ∧ Cond.selects Y_X8_with.1.cls Y_X8_with.1 Y_X8_with.1 ∈ tbG ∧ Cond.initialized Y_X8_with.1.cls ∈ tbG ∧ Cond.code Y_X8_with.1 Y_X8_with.2.1 Y_X8_with.2.2.1 Y_X8_with.2.2.2 ∈ tbG := ⟨tb_at 1179 (by decide +kernel) rfl, tb_at 56 (by decide +kernel) rfl, tb_at 74 (by decide +kernel) rfl, tb_at 1180 (rfl) rfl⟩
set_option maxRecDepth 100000 in
theorem mw_X8_freeBy : Cond.instanceMethod Y_X8_freeBy.1 ∈ tbG ∧ Cond.selects Y_X8_freeBy.1.cls Y_X8_freeBy.1 Y_X8_freeBy.1 ∈ tbG ∧ Cond.initialized Y_X8_freeBy.1.cls ∈ tbG ∧ Cond.code Y_X8_freeBy.1 Y_X8_freeBy.2.1 Y_X8_freeBy.2.2.1 Y_X8_freeBy.2.2.2 ∈ tbG := ⟨tb_at 1175 (by decide +kernel) rfl, tb_at 55 (by decide +kernel) rfl, tb_at 74 (by decide +kernel) rfl, tb_at 1176 (rfl) rfl⟩
set_option maxRecDepth 100000 in
theorem mw_X8_freeElement : Cond.instanceMethod Y_X8_freeElement.1 ∈ tbG ∧ Cond.selects Y_X8_freeElement.1.cls Y_X8_freeElement.1 Y_X8_freeElement.1 ∈ tbG ∧ Cond.initialized Y_X8_freeElement.1.cls ∈ tbG ∧ Cond.code Y_X8_freeElement.1 Y_X8_freeElement.2.1 Y_X8_freeElement.2.2.1 Y_X8_freeElement.2.2.2 ∈ tbG := ⟨tb_at 1170 (by decide +kernel) rfl, tb_at 1171 (by decide +kernel) rfl, tb_at 74 (by decide +kernel) rfl, tb_at 1172 (rfl) rfl⟩
set_option maxRecDepth 100000 in
theorem mw_X8_freeFor : Cond.instanceMethod Y_X8_freeFor.1 ∈ tbG ∧ Cond.selects Y_X8_freeFor.1.cls Y_X8_freeFor.1 Y_X8_freeFor.1 ∈ tbG ∧ Cond.initialized Y_X8_freeFor.1.cls ∈ tbG ∧ Cond.code Y_X8_freeFor.1 Y_X8_freeFor.2.1 Y_X8_freeFor.2.2.1 Y_X8_freeFor.2.2.2 ∈ tbG := ⟨tb_at 1182 (by decide +kernel) rfl, tb_at 1183 (by decide +kernel) rfl, tb_at 74 (by decide +kernel) rfl, tb_at 1184 (rfl) rfl⟩
set_option maxRecDepth 100000 in
theorem mw_X8_blocksWith : Cond.instanceMethod Y_X8_blocksWith.1 ∈ tbG ∧ Cond.selects Y_X8_blocksWith.1.cls Y_X8_blocksWith.1 Y_X8_blocksWith.1 ∈ tbG ∧ Cond.initialized Y_X8_blocksWith.1.cls ∈ tbG ∧ Cond.code Y_X8_blocksWith.1 Y_X8_blocksWith.2.1 Y_X8_blocksWith.2.2.1 Y_X8_blocksWith.2.2.2 ∈ tbG := ⟨tb_at 1186 (by decide +kernel) rfl, tb_at 1187 (by decide +kernel) rfl, tb_at 74 (by decide +kernel) rfl, tb_at 1188 (rfl) rfl⟩
set_option maxRecDepth 100000 in
theorem mw_X8_areAlike : Cond.instanceMethod Y_X8_areAlike.1 ∈ tbG ∧ Cond.selects Y_X8_areAlike.1.cls Y_X8_areAlike.1 Y_X8_areAlike.1 ∈ tbG ∧ Cond.initialized Y_X8_areAlike.1.cls ∈ tbG ∧ Cond.code Y_X8_areAlike.1 Y_X8_areAlike.2.1 Y_X8_areAlike.2.2.1 Y_X8_areAlike.2.2.2 ∈ tbG := ⟨tb_at 1195 (by decide +kernel) rfl, tb_at 57 (by decide +kernel) rfl, tb_at 74 (by decide +kernel) rfl, tb_at 1196 (rfl) rfl⟩
set_option maxRecDepth 100000 in
theorem mw_X8_alike : Cond.instanceMethod Y_X8_alike.1 ∈ tbG ∧ Cond.selects Y_X8_alike.1.cls Y_X8_alike.1 Y_X8_alike.1 ∈ tbG ∧ Cond.initialized Y_X8_alike.1.cls ∈ tbG ∧ Cond.code Y_X8_alike.1 Y_X8_alike.2.1 Y_X8_alike.2.2.1 Y_X8_alike.2.2.2 ∈ tbG := ⟨tb_at 1190 (by decide +kernel) rfl, tb_at 1191 (by decide +kernel) rfl, tb_at 74 (by decide +kernel) rfl, tb_at 1192 (rfl) rfl⟩
set_option maxRecDepth 100000 in
theorem mw_X8_unlikeBlocks : Cond.instanceMethod Y_X8_unlikeBlocks.1 ∈ tbG ∧ Cond.selects Y_X8_unlikeBlocks.1.cls Y_X8_unlikeBlocks.1 Y_X8_unlikeBlocks.1 ∈ tbG ∧ Cond.initialized Y_X8_unlikeBlocks.1.cls ∈ tbG ∧ Cond.code Y_X8_unlikeBlocks.1 Y_X8_unlikeBlocks.2.1 Y_X8_unlikeBlocks.2.2.1 Y_X8_unlikeBlocks.2.2.2 ∈ tbG := ⟨tb_at 1198 (by decide +kernel) rfl, tb_at 1199 (by decide +kernel) rfl, tb_at 74 (by decide +kernel) rfl, tb_at 1200 (rfl) rfl⟩
set_option maxRecDepth 100000 in
theorem mw_X8_type : Cond.instanceMethod Y_X8_type.1 ∈ tbG ∧ Cond.selects Y_X8_type.1.cls Y_X8_type.1 Y_X8_type.1 ∈ tbG ∧ Cond.initialized Y_X8_type.1.cls ∈ tbG ∧ Cond.code Y_X8_type.1 Y_X8_type.2.1 Y_X8_type.2.2.1 Y_X8_type.2.2.2 ∈ tbG := ⟨tb_at 1202 (by decide +kernel) rfl, tb_at 1203 (by decide +kernel) rfl, tb_at 74 (by decide +kernel) rfl, tb_at 1204 (rfl) rfl⟩
set_option maxRecDepth 100000 in
theorem mw_X8_clearCommands : Cond.instanceMethod Y_X8_clearCommands.1 ∈ tbG ∧ Cond.selects Y_X8_clearCommands.1.cls Y_X8_clearCommands.1 Y_X8_clearCommands.1 ∈ tbG ∧ Cond.initialized Y_X8_clearCommands.1.cls ∈ tbG ∧ Cond.code Y_X8_clearCommands.1 Y_X8_clearCommands.2.1 Y_X8_clearCommands.2.2.1 Y_X8_clearCommands.2.2.2 ∈ tbG := ⟨tb_at 1206 (by decide +kernel) rfl, tb_at 1207 (by decide +kernel) rfl, tb_at 74 (by decide +kernel) rfl, tb_at 1208 (rfl) rfl⟩
set_option maxRecDepth 100000 in
theorem mw_X8_here : Cond.instanceMethod Y_X8_here.1 ∈ tbG ∧ Cond.selects Y_X8_here.1.cls Y_X8_here.1 Y_X8_here.1 ∈ tbG ∧ Cond.initialized Y_X8_here.1.cls ∈ tbG ∧ Cond.code Y_X8_here.1 Y_X8_here.2.1 Y_X8_here.2.2.1 Y_X8_here.2.2.2 ∈ tbG := ⟨tb_at 1223 (by decide +kernel) rfl, tb_at 60 (by decide +kernel) rfl, tb_at 74 (by decide +kernel) rfl, tb_at 1224 (rfl) rfl⟩
set_option maxRecDepth 100000 in
theorem mw_X8_skips : Cond.instanceMethod Y_X8_skips.1 ∈ tbG ∧ Cond.selects Y_X8_skips.1.cls Y_X8_skips.1 Y_X8_skips.1 ∈ tbG ∧ Cond.initialized Y_X8_skips.1.cls ∈ tbG ∧ Cond.code Y_X8_skips.1 Y_X8_skips.2.1 Y_X8_skips.2.2.1 Y_X8_skips.2.2.2 ∈ tbG := ⟨tb_at 1219 (by decide +kernel) rfl, tb_at 59 (by decide +kernel) rfl, tb_at 74 (by decide +kernel) rfl, tb_at 1220 (rfl) rfl⟩
set_option maxRecDepth 100000 in
theorem mw_X8_fails : Cond.instanceMethod Y_X8_fails.1 ∈ tbG ∧ Cond.selects Y_X8_fails.1.cls Y_X8_fails.1 Y_X8_fails.1 ∈ tbG ∧ Cond.initialized Y_X8_fails.1.cls ∈ tbG ∧ Cond.code Y_X8_fails.1 Y_X8_fails.2.1 Y_X8_fails.2.2.1 Y_X8_fails.2.2.2 ∈ tbG := ⟨tb_at 1239 (by decide +kernel) rfl, tb_at 64 (by decide +kernel) rfl, tb_at 74 (by decide +kernel) rfl, tb_at 1240 (rfl) rfl⟩
set_option maxRecDepth 100000 in
theorem mw_X8_reads : Cond.instanceMethod Y_X8_reads.1 ∈ tbG ∧ Cond.selects Y_X8_reads.1.cls Y_X8_reads.1 Y_X8_reads.1 ∈ tbG ∧ Cond.initialized Y_X8_reads.1.cls ∈ tbG ∧ Cond.code Y_X8_reads.1 Y_X8_reads.2.1 Y_X8_reads.2.2.1 Y_X8_reads.2.2.2 ∈ tbG := ⟨tb_at 1235 (by decide +kernel) rfl, tb_at 63 (by decide +kernel) rfl, tb_at 74 (by decide +kernel) rfl, tb_at 1236 (rfl) rfl⟩
set_option maxRecDepth 100000 in
theorem mw_X8_word : Cond.instanceMethod Y_X8_word.1 ∈ tbG ∧ Cond.selects Y_X8_word.1.cls Y_X8_word.1 Y_X8_word.1 ∈ tbG ∧ Cond.initialized Y_X8_word.1.cls ∈ tbG ∧ Cond.code Y_X8_word.1 Y_X8_word.2.1 Y_X8_word.2.2.1 Y_X8_word.2.2.2 ∈ tbG := ⟨tb_at 1231 (by decide +kernel) rfl, tb_at 62 (by decide +kernel) rfl, tb_at 74 (by decide +kernel) rfl, tb_at 1232 (rfl) rfl⟩
set_option maxRecDepth 100000 in
theorem mw_X8_numbersOf : Cond.static Y_X8_numbersOf.1 ∈ tbG ∧ Cond.initialized Y_X8_numbersOf.1.cls ∈ tbG ∧ Cond.code Y_X8_numbersOf.1 Y_X8_numbersOf.2.1 Y_X8_numbersOf.2.2.1 Y_X8_numbersOf.2.2.2 ∈ tbG := ⟨tb_at 1242 (by decide +kernel) rfl, tb_at 74 (by decide +kernel) rfl, tb_at 1243 (rfl) rfl⟩
set_option maxRecDepth 100000 in
theorem mw_X8_number : Cond.instanceMethod Y_X8_number.1 ∈ tbG ∧ Cond.selects Y_X8_number.1.cls Y_X8_number.1 Y_X8_number.1 ∈ tbG ∧ Cond.initialized Y_X8_number.1.cls ∈ tbG ∧ Cond.code Y_X8_number.1 Y_X8_number.2.1 Y_X8_number.2.2.1 Y_X8_number.2.2.2 ∈ tbG := ⟨tb_at 1246 (by decide +kernel) rfl, tb_at 65 (by decide +kernel) rfl, tb_at 74 (by decide +kernel) rfl, tb_at 1247 (rfl) rfl⟩
set_option maxRecDepth 100000 in
theorem mw_X8_readsCommand : Cond.instanceMethod Y_X8_readsCommand.1 ∈ tbG ∧ Cond.selects Y_X8_readsCommand.1.cls Y_X8_readsCommand.1 Y_X8_readsCommand.1 ∈ tbG ∧ Cond.initialized Y_X8_readsCommand.1.cls ∈ tbG ∧ Cond.code Y_X8_readsCommand.1 Y_X8_readsCommand.2.1 Y_X8_readsCommand.2.2.1 Y_X8_readsCommand.2.2.2 ∈ tbG := ⟨tb_at 1227 (by decide +kernel) rfl, tb_at 61 (by decide +kernel) rfl, tb_at 74 (by decide +kernel) rfl, tb_at 1228 (rfl) rfl⟩
set_option maxRecDepth 100000 in
theorem mw_X8_findsFault : Cond.instanceMethod Y_X8_findsFault.1 ∈ tbG ∧ Cond.selects Y_X8_findsFault.1.cls Y_X8_findsFault.1 Y_X8_findsFault.1 ∈ tbG ∧ Cond.initialized Y_X8_findsFault.1.cls ∈ tbG ∧ Cond.code Y_X8_findsFault.1 Y_X8_findsFault.2.1 Y_X8_findsFault.2.2.1 Y_X8_findsFault.2.2.2 ∈ tbG := ⟨tb_at 1215 (by decide +kernel) rfl, tb_at 58 (by decide +kernel) rfl, tb_at 74 (by decide +kernel) rfl, tb_at 1216 (rfl) rfl⟩
set_option maxRecDepth 100000 in
theorem mw_X8_does : Cond.instanceMethod Y_X8_does.1 ∈ tbG ∧ Cond.selects Y_X8_does.1.cls Y_X8_does.1 Y_X8_does.1 ∈ tbG ∧ Cond.initialized Y_X8_does.1.cls ∈ tbG ∧ Cond.code Y_X8_does.1 Y_X8_does.2.1 Y_X8_does.2.2.1 Y_X8_does.2.2.2 ∈ tbG := ⟨tb_at 1250 (by decide +kernel) rfl, tb_at 66 (by decide +kernel) rfl, tb_at 74 (by decide +kernel) rfl, tb_at 1251 (rfl) rfl⟩
set_option maxRecDepth 100000 in
theorem mw_X8_runCommands : Cond.instanceMethod Y_X8_runCommands.1 ∈ tbG ∧ Cond.selects Y_X8_runCommands.1.cls Y_X8_runCommands.1 Y_X8_runCommands.1 ∈ tbG ∧ Cond.initialized Y_X8_runCommands.1.cls ∈ tbG ∧ Cond.code Y_X8_runCommands.1 Y_X8_runCommands.2.1 Y_X8_runCommands.2.2.1 Y_X8_runCommands.2.2.2 ∈ tbG := ⟨tb_at 1210 (by decide +kernel) rfl, tb_at 1211 (by decide +kernel) rfl, tb_at 74 (by decide +kernel) rfl, tb_at 1212 (rfl) rfl⟩
set_option maxRecDepth 100000 in
theorem mw_X8_digest : Cond.instanceMethod Y_X8_digest.1 ∈ tbG ∧ Cond.selects Y_X8_digest.1.cls Y_X8_digest.1 Y_X8_digest.1 ∈ tbG ∧ Cond.initialized Y_X8_digest.1.cls ∈ tbG ∧ Cond.code Y_X8_digest.1 Y_X8_digest.2.1 Y_X8_digest.2.2.1 Y_X8_digest.2.2.2 ∈ tbG := ⟨tb_at 1258 (by decide +kernel) rfl, tb_at 1259 (by decide +kernel) rfl, tb_at 74 (by decide +kernel) rfl, tb_at 1260 (rfl) rfl⟩
set_option maxRecDepth 100000 in
theorem mw_Jxe99ae_isNaN_b9ae7 : Cond.static Y_Jxe99ae_isNaN_b9ae7.1 ∈ tbG ∧ Cond.initialized Y_Jxe99ae_isNaN_b9ae7.1.cls ∈ tbG ∧ Cond.code Y_Jxe99ae_isNaN_b9ae7.1 Y_Jxe99ae_isNaN_b9ae7.2.1 Y_Jxe99ae_isNaN_b9ae7.2.2.1 Y_Jxe99ae_isNaN_b9ae7.2.2.2 ∈ tbG := ⟨tb_at 1270 (by decide +kernel) rfl, tb_at 89 (by decide +kernel) rfl, tb_at 1271 (rfl) rfl⟩
set_option maxRecDepth 100000 in
theorem mw_Jxe99ae_doubleToLongBits_ccdee : Cond.static Y_Jxe99ae_doubleToLongBits_ccdee.1 ∈ tbG ∧ Cond.initialized Y_Jxe99ae_doubleToLongBits_ccdee.1.cls ∈ tbG ∧ Cond.code Y_Jxe99ae_doubleToLongBits_ccdee.1 Y_Jxe99ae_doubleToLongBits_ccdee.2.1 Y_Jxe99ae_doubleToLongBits_ccdee.2.2.1 Y_Jxe99ae_doubleToLongBits_ccdee.2.2.2 ∈ tbG := ⟨tb_at 1267 (by decide +kernel) rfl, tb_at 89 (by decide +kernel) rfl, tb_at 1268 (rfl) rfl⟩
set_option maxRecDepth 100000 in
theorem mw_J6_bitCount_0f7a4 : Cond.static Y_J6_bitCount_0f7a4.1 ∈ tbG ∧ Cond.initialized Y_J6_bitCount_0f7a4.1.cls ∈ tbG ∧ Cond.code Y_J6_bitCount_0f7a4.1 Y_J6_bitCount_0f7a4.2.1 Y_J6_bitCount_0f7a4.2.2.1 Y_J6_bitCount_0f7a4.2.2.2 ∈ tbG := ⟨tb_at 596 (by decide +kernel) rfl, tb_at 82 (by decide +kernel) rfl, tb_at 597 (rfl) rfl⟩
set_option maxRecDepth 100000 in
theorem mw_J13_bitCount_95d88 : Cond.static Y_J13_bitCount_95d88.1 ∈ tbG ∧ Cond.initialized Y_J13_bitCount_95d88.1.cls ∈ tbG ∧ Cond.code Y_J13_bitCount_95d88.1 Y_J13_bitCount_95d88.2.1 Y_J13_bitCount_95d88.2.2.1 Y_J13_bitCount_95d88.2.2.2 ∈ tbG := ⟨tb_at 625 (by decide +kernel) rfl, tb_at 83 (by decide +kernel) rfl, tb_at 626 (rfl) rfl⟩
set_option maxRecDepth 100000 in
theorem mw_J9_max_7cf53 : Cond.static Y_J9_max_7cf53.1 ∈ tbG ∧ Cond.initialized Y_J9_max_7cf53.1.cls ∈ tbG ∧ Cond.code Y_J9_max_7cf53.1 Y_J9_max_7cf53.2.1 Y_J9_max_7cf53.2.2.1 Y_J9_max_7cf53.2.2.2 ∈ tbG := ⟨tb_at 606 (by decide +kernel) rfl, tb_at 81 (by decide +kernel) rfl, tb_at 607 (rfl) rfl⟩
set_option maxRecDepth 100000 in
theorem mw_J9_min_7cf53 : Cond.static Y_J9_min_7cf53.1 ∈ tbG ∧ Cond.initialized Y_J9_min_7cf53.1.cls ∈ tbG ∧ Cond.code Y_J9_min_7cf53.1 Y_J9_min_7cf53.2.1 Y_J9_min_7cf53.2.2.1 Y_J9_min_7cf53.2.2.2 ∈ tbG := ⟨tb_at 318 (by decide +kernel) rfl, tb_at 81 (by decide +kernel) rfl, tb_at 319 (rfl) rfl⟩
set_option maxRecDepth 100000 in
theorem mw_J0_length_8abf5 : Cond.instanceMethod Y_J0_length_8abf5.1 ∈ tbG ∧ Cond.selects Y_J0_length_8abf5.1.cls Y_J0_length_8abf5.1 Y_J0_length_8abf5.1 ∈ tbG ∧ Cond.initialized Y_J0_length_8abf5.1.cls ∈ tbG ∧ Cond.code Y_J0_length_8abf5.1 Y_J0_length_8abf5.2.1 Y_J0_length_8abf5.2.2.1 Y_J0_length_8abf5.2.2.2 ∈ tbG := ⟨tb_at 400 (by decide +kernel) rfl, tb_at 401 (by decide +kernel) rfl, tb_at 84 (by decide +kernel) rfl, tb_at 402 (rfl) rfl⟩
set_option maxRecDepth 100000 in
theorem mw_J0_charAt_5068e : Cond.instanceMethod Y_J0_charAt_5068e.1 ∈ tbG ∧ Cond.selects Y_J0_charAt_5068e.1.cls Y_J0_charAt_5068e.1 Y_J0_charAt_5068e.1 ∈ tbG ∧ Cond.initialized Y_J0_charAt_5068e.1.cls ∈ tbG ∧ Cond.code Y_J0_charAt_5068e.1 Y_J0_charAt_5068e.2.1 Y_J0_charAt_5068e.2.2.1 Y_J0_charAt_5068e.2.2.2 ∈ tbG := ⟨tb_at 410 (by decide +kernel) rfl, tb_at 411 (by decide +kernel) rfl, tb_at 84 (by decide +kernel) rfl, tb_at 412 (rfl) rfl⟩
set_option maxRecDepth 100000 in
theorem mw_J0_coder_7d493 : Cond.instanceMethod Y_J0_coder_7d493.1 ∈ tbG ∧ Cond.selects Y_J0_coder_7d493.1.cls Y_J0_coder_7d493.1 Y_J0_coder_7d493.1 ∈ tbG ∧ Cond.initialized Y_J0_coder_7d493.1.cls ∈ tbG ∧ Cond.code Y_J0_coder_7d493.1 Y_J0_coder_7d493.2.1 Y_J0_coder_7d493.2.2.1 Y_J0_coder_7d493.2.2.2 ∈ tbG := ⟨tb_at 404 (by decide +kernel) rfl, tb_at 405 (by decide +kernel) rfl, tb_at 84 (by decide +kernel) rfl, tb_at 406 (rfl) rfl⟩
set_option maxRecDepth 100000 in
theorem mw_J0_isLatin1_aae02 : Cond.instanceMethod Y_J0_isLatin1_aae02.1 ∈ tbG ∧ Cond.selects Y_J0_isLatin1_aae02.1.cls Y_J0_isLatin1_aae02.1 Y_J0_isLatin1_aae02.1 ∈ tbG ∧ Cond.initialized Y_J0_isLatin1_aae02.1.cls ∈ tbG ∧ Cond.code Y_J0_isLatin1_aae02.1 Y_J0_isLatin1_aae02.2.1 Y_J0_isLatin1_aae02.2.2.1 Y_J0_isLatin1_aae02.2.2.2 ∈ tbG := ⟨tb_at 414 (by decide +kernel) rfl, tb_at 415 (by decide +kernel) rfl, tb_at 84 (by decide +kernel) rfl, tb_at 416 (rfl) rfl⟩
set_option maxRecDepth 100000 in
theorem mw_J0_checkIndex_df160 : Cond.static Y_J0_checkIndex_df160.1 ∈ tbG ∧ Cond.initialized Y_J0_checkIndex_df160.1.cls ∈ tbG ∧ Cond.code Y_J0_checkIndex_df160.1 Y_J0_checkIndex_df160.2.1 Y_J0_checkIndex_df160.2.2.1 Y_J0_checkIndex_df160.2.2.2 ∈ tbG := ⟨tb_at 421 (by decide +kernel) rfl, tb_at 84 (by decide +kernel) rfl, tb_at 422 (rfl) rfl⟩
set_option maxRecDepth 100000 in
theorem mw_J1_charAt_3b067 : Cond.static Y_J1_charAt_3b067.1 ∈ tbG ∧ Cond.initialized Y_J1_charAt_3b067.1.cls ∈ tbG ∧ Cond.code Y_J1_charAt_3b067.1 Y_J1_charAt_3b067.2.1 Y_J1_charAt_3b067.2.2.1 Y_J1_charAt_3b067.2.2.2 ∈ tbG := ⟨tb_at 418 (by decide +kernel) rfl, tb_at 85 (by decide +kernel) rfl, tb_at 419 (rfl) rfl⟩
set_option maxRecDepth 100000 in
theorem mw_J2_getChar_3b067 : Cond.static Y_J2_getChar_3b067.1 ∈ tbG ∧ Cond.initialized Y_J2_getChar_3b067.1.cls ∈ tbG ∧ Cond.code Y_J2_getChar_3b067.1 Y_J2_getChar_3b067.2.1 Y_J2_getChar_3b067.2.2.1 Y_J2_getChar_3b067.2.2.2 ∈ tbG := ⟨tb_at 439 (by decide +kernel) rfl, tb_at 87 (by decide +kernel) rfl, tb_at 440 (rfl) rfl⟩
set_option maxRecDepth 100000 in
theorem mw_J2_length_9d52b : Cond.static Y_J2_length_9d52b.1 ∈ tbG ∧ Cond.initialized Y_J2_length_9d52b.1.cls ∈ tbG ∧ Cond.code Y_J2_length_9d52b.1 Y_J2_length_9d52b.2.1 Y_J2_length_9d52b.2.2.1 Y_J2_length_9d52b.2.2.2 ∈ tbG := ⟨tb_at 435 (by decide +kernel) rfl, tb_at 87 (by decide +kernel) rfl, tb_at 436 (rfl) rfl⟩
set_option maxRecDepth 100000 in
theorem mw_J2_charAt_3b067 : Cond.static Y_J2_charAt_3b067.1 ∈ tbG ∧ Cond.initialized Y_J2_charAt_3b067.1.cls ∈ tbG ∧ Cond.code Y_J2_charAt_3b067.1 Y_J2_charAt_3b067.2.1 Y_J2_charAt_3b067.2.2.1 Y_J2_charAt_3b067.2.2.2 ∈ tbG := ⟨tb_at 429 (by decide +kernel) rfl, tb_at 87 (by decide +kernel) rfl, tb_at 430 (rfl) rfl⟩
set_option maxRecDepth 100000 in
theorem mw_J2_checkIndex_2214a : Cond.static Y_J2_checkIndex_2214a.1 ∈ tbG ∧ Cond.initialized Y_J2_checkIndex_2214a.1.cls ∈ tbG ∧ Cond.code Y_J2_checkIndex_2214a.1 Y_J2_checkIndex_2214a.2.1 Y_J2_checkIndex_2214a.2.2.1 Y_J2_checkIndex_2214a.2.2.2 ∈ tbG := ⟨tb_at 432 (by decide +kernel) rfl, tb_at 87 (by decide +kernel) rfl, tb_at 433 (rfl) rfl⟩
set_option maxRecDepth 100000 in
theorem mw_J3_checkIndex_8e157 : Cond.static Y_J3_checkIndex_8e157.1 ∈ tbG ∧ Cond.initialized Y_J3_checkIndex_8e157.1.cls ∈ tbG ∧ Cond.code Y_J3_checkIndex_8e157.1 Y_J3_checkIndex_8e157.2.1 Y_J3_checkIndex_8e157.2.2.1 Y_J3_checkIndex_8e157.2.2.2 ∈ tbG := ⟨tb_at 426 (by decide +kernel) rfl, tb_at 86 (by decide +kernel) rfl, tb_at 427 (rfl) rfl⟩
theorem uw_X1 : ∀ w ∈ u_ws RX1 TX1 7, w ∈ tbG := fun w h => List.mem_filter.mpr ⟨(by decide +kernel : ∀ w ∈ u_ws RX1 TX1 7, w ∈ lw_tbl) w h, (by decide +kernel : ∀ w ∈ u_ws RX1 TX1 7, goodWord w = true) w h⟩
theorem uw_X2 : ∀ w ∈ u_ws RX2 TX2 2, w ∈ tbG := fun w h => List.mem_filter.mpr ⟨(by decide +kernel : ∀ w ∈ u_ws RX2 TX2 2, w ∈ lw_tbl) w h, (by decide +kernel : ∀ w ∈ u_ws RX2 TX2 2, goodWord w = true) w h⟩
theorem uw_X3 : ∀ w ∈ u_ws RX3 TX3 2, w ∈ tbG := fun w h => List.mem_filter.mpr ⟨(by decide +kernel : ∀ w ∈ u_ws RX3 TX3 2, w ∈ lw_tbl) w h, (by decide +kernel : ∀ w ∈ u_ws RX3 TX3 2, goodWord w = true) w h⟩
theorem uw_X4 : ∀ w ∈ u_ws RX4 TX4 4, w ∈ tbG := fun w h => List.mem_filter.mpr ⟨(by decide +kernel : ∀ w ∈ u_ws RX4 TX4 4, w ∈ lw_tbl) w h, (by decide +kernel : ∀ w ∈ u_ws RX4 TX4 4, goodWord w = true) w h⟩
theorem uw_X5 : ∀ w ∈ u_ws RX5 TX5 8, w ∈ tbG := fun w h => List.mem_filter.mpr ⟨(by decide +kernel : ∀ w ∈ u_ws RX5 TX5 8, w ∈ lw_tbl) w h, (by decide +kernel : ∀ w ∈ u_ws RX5 TX5 8, goodWord w = true) w h⟩
theorem uw_X7 : ∀ w ∈ u_ws RX7 TX7 4, w ∈ tbG := fun w h => List.mem_filter.mpr ⟨(by decide +kernel : ∀ w ∈ u_ws RX7 TX7 4, w ∈ lw_tbl) w h, (by decide +kernel : ∀ w ∈ u_ws RX7 TX7 4, goodWord w = true) w h⟩
theorem uw_X8 : ∀ w ∈ u_ws RX8 TX8 18, w ∈ tbG := fun w h => List.mem_filter.mpr ⟨(by decide +kernel : ∀ w ∈ u_ws RX8 TX8 18, w ∈ lw_tbl) w h, (by decide +kernel : ∀ w ∈ u_ws RX8 TX8 18, goodWord w = true) w h⟩
theorem fl_X7_12 : FLg RX7 12 5 0 := ⟨RX7, TX7, 4, rfl, by decide, uw_X7, rfl, Or.inl (tb_at 228 (by decide +kernel) rfl)⟩
theorem fl_X7_19 : FLg RX7 19 5 1 := ⟨RX7, TX7, 4, rfl, by decide, uw_X7, rfl, Or.inl (tb_at 229 (by decide +kernel) rfl)⟩
theorem fl_X7_26 : FLg RX7 26 5 2 := ⟨RX7, TX7, 4, rfl, by decide, uw_X7, rfl, Or.inl (tb_at 230 (by decide +kernel) rfl)⟩
theorem fl_X7_33 : FLg RX7 33 5 3 := ⟨RX7, TX7, 4, rfl, by decide, uw_X7, rfl, Or.inl (tb_at 231 (by decide +kernel) rfl)⟩
theorem lk_X7_37 : LkS RX7 37 Y_X7_isModulus 1 := ⟨tb_at 497 (by decide +kernel) rfl, mw_X7_isModulus.1, mw_X7_isModulus.2.1, mw_X7_isModulus.2.2, by decide, ⟨by decide, by decide, by decide +kernel⟩⟩
theorem lk_X7_48 : LkV RX7 48 Y_X3_keep 1 := ⟨tb_at 466 (by decide +kernel) rfl, mw_X3_keep.1, mw_X3_keep.2.1, mw_X3_keep.2.2.1, mw_X3_keep.2.2.2, by decide, ⟨by decide, by decide, by decide +kernel⟩⟩
theorem lk_X7_52 : LkV RX7 52 Y_X4_restart 2 := ⟨tb_at 500 (by decide +kernel) rfl, mw_X4_restart.1, mw_X4_restart.2.1, mw_X4_restart.2.2.1, mw_X4_restart.2.2.2, by decide, ⟨by decide, by decide, by decide +kernel⟩⟩
theorem fl_X7_56 : FLg RX7 56 3 0 := ⟨RX4, TX4, 4, rfl, by decide, uw_X4, rfl, Or.inr (List.mem_of_getElem? (i := 7) (by decide +kernel))⟩
theorem lk_X7_60 : LkV RX7 60 Y_X2_count 0 := ⟨tb_at 304 (by decide +kernel) rfl, mw_X2_count.1, mw_X2_count.2.1, mw_X2_count.2.2.1, mw_X2_count.2.2.2, by decide, ⟨by decide, by decide, by decide +kernel⟩⟩
theorem lk_X7_66 : LkV RX7 66 Y_X2_has 1 := ⟨tb_at 508 (by decide +kernel) rfl, mw_X2_has.1, mw_X2_has.2.1, mw_X2_has.2.2.1, mw_X2_has.2.2.2, by decide, ⟨by decide, by decide, by decide +kernel⟩⟩
theorem lk_X7_74 : LkV RX7 74 Y_X4_isFull 0 := ⟨tb_at 512 (by decide +kernel) rfl, mw_X4_isFull.1, mw_X4_isFull.2.1, mw_X4_isFull.2.2.1, mw_X4_isFull.2.2.2, by decide, ⟨by decide, by decide, by decide +kernel⟩⟩
theorem lk_X7_83 : LkV RX7 83 Y_X4_append 1 := ⟨tb_at 513 (by decide +kernel) rfl, mw_X4_append.1, mw_X4_append.2.1, mw_X4_append.2.2.1, mw_X4_append.2.2.2, by decide, ⟨by decide, by decide, by decide +kernel⟩⟩
theorem fl_X7_87 : FLg RX7 87 3 3 := ⟨RX4, TX4, 4, rfl, by decide, uw_X4, rfl, Or.inr (List.mem_of_getElem? (i := 12) (by decide +kernel))⟩
theorem lk_X7_91 : LkV RX7 91 Y_X4_hasPlace 1 := ⟨tb_at 518 (by decide +kernel) rfl, mw_X4_hasPlace.1, mw_X4_hasPlace.2.1, mw_X4_hasPlace.2.2.1, mw_X4_hasPlace.2.2.2, by decide, ⟨by decide, by decide, by decide +kernel⟩⟩
theorem lk_X7_96 : LkV RX7 96 Y_X4_takeOut 1 := ⟨tb_at 522 (by decide +kernel) rfl, mw_X4_takeOut.1, mw_X4_takeOut.2.1, mw_X4_takeOut.2.2.1, mw_X4_takeOut.2.2.2, by decide, ⟨by decide, by decide, by decide +kernel⟩⟩
theorem lk_X7_100 : LkS RX7 100 Y_X7_isPart 1 := ⟨tb_at 531 (by decide +kernel) rfl, mw_X7_isPart.1, mw_X7_isPart.2.1, mw_X7_isPart.2.2, by decide, ⟨by decide, by decide, by decide +kernel⟩⟩
theorem fl_X7_105 : FLg RX7 105 3 2 := ⟨RX4, TX4, 4, rfl, by decide, uw_X4, rfl, Or.inr (List.mem_of_getElem? (i := 10) (by decide +kernel))⟩
theorem lk_X7_109 : LkV RX7 109 Y_X7_canLaySplit 0 := ⟨tb_at 534 (by decide +kernel) rfl, mw_X7_canLaySplit.1, mw_X7_canLaySplit.2.1, mw_X7_canLaySplit.2.2.1, mw_X7_canLaySplit.2.2.2, by decide, ⟨by decide, by decide, by decide +kernel⟩⟩
theorem lk_X7_114 : LkV RX7 114 Y_X7_laySplitNow 0 := ⟨tb_at 561 (by decide +kernel) rfl, mw_X7_laySplitNow.1, mw_X7_laySplitNow.2.1, mw_X7_laySplitNow.2.2.1, mw_X7_laySplitNow.2.2.2, by decide, ⟨by decide, by decide, by decide +kernel⟩⟩
theorem lk_X7_117 : LkV RX7 117 Y_X2_plus 2 := ⟨tb_at 830 (by decide +kernel) rfl, mw_X2_plus.1, mw_X2_plus.2.1, mw_X2_plus.2.2.1, mw_X2_plus.2.2.2, by decide, ⟨by decide, by decide, by decide +kernel⟩⟩
theorem lk_X7_121 : LkV RX7 121 Y_X2_orderOf 1 := ⟨tb_at 283 (by decide +kernel) rfl, mw_X2_orderOf.1, mw_X2_orderOf.2.1, mw_X2_orderOf.2.2.1, mw_X2_orderOf.2.2.2, by decide, ⟨by decide, by decide, by decide +kernel⟩⟩
theorem lk_X7_124 : LkV RX7 124 Y_X2_opposite 1 := ⟨tb_at 838 (by decide +kernel) rfl, mw_X2_opposite.1, mw_X2_opposite.2.1, mw_X2_opposite.2.2.1, mw_X2_opposite.2.2.2, by decide, ⟨by decide, by decide, by decide +kernel⟩⟩
theorem lk_X7_127 : LkV RX7 127 Y_X4_allPlaces 0 := ⟨tb_at 538 (by decide +kernel) rfl, mw_X4_allPlaces.1, mw_X4_allPlaces.2.1, mw_X4_allPlaces.2.2.1, mw_X4_allPlaces.2.2.2, by decide, ⟨by decide, by decide, by decide +kernel⟩⟩
theorem lk_X7_130 : LkV RX7 130 Y_X4_timesOf 2 := ⟨tb_at 839 (by decide +kernel) rfl, mw_X4_timesOf.1, mw_X4_timesOf.2.1, mw_X4_timesOf.2.2.1, mw_X4_timesOf.2.2.2, by decide, ⟨by decide, by decide, by decide +kernel⟩⟩
theorem lk_X7_133 : LkV RX7 133 Y_X7_sums 0 := ⟨tb_at 291 (by decide +kernel) rfl, mw_X7_sums.1, mw_X7_sums.2.1, mw_X7_sums.2.2.1, mw_X7_sums.2.2.2, by decide, ⟨by decide, by decide, by decide +kernel⟩⟩
theorem lk_X7_137 : LkS RX7 137 Y_X7_contains 2 := ⟨tb_at 590 (by decide +kernel) rfl, mw_X7_contains.1, mw_X7_contains.2.1, mw_X7_contains.2.2, by decide, ⟨by decide, by decide, by decide +kernel⟩⟩
theorem lk_X7_143 : LkV RX7 143 Y_X2_commonDivisor 0 := ⟨tb_at 245 (by decide +kernel) rfl, mw_X2_commonDivisor.1, mw_X2_commonDivisor.2.1, mw_X2_commonDivisor.2.2.1, mw_X2_commonDivisor.2.2.2, by decide, ⟨by decide, by decide, by decide +kernel⟩⟩
theorem lk_X7_146 : LkV RX7 146 Y_X2_exponent 0 := ⟨tb_at 252 (by decide +kernel) rfl, mw_X2_exponent.1, mw_X2_exponent.2.1, mw_X2_exponent.2.2.1, mw_X2_exponent.2.2.2, by decide, ⟨by decide, by decide, by decide +kernel⟩⟩
theorem fl_X7_149 : FLg RX7 149 3 1 := ⟨RX4, TX4, 4, rfl, by decide, uw_X4, rfl, Or.inr (List.mem_of_getElem? (i := 9) (by decide +kernel))⟩
theorem lk_X7_152 : LkV RX7 152 Y_X5_follow 1 := ⟨tb_at 309 (by decide +kernel) rfl, mw_X5_follow.1, mw_X5_follow.2.1, mw_X5_follow.2.2.1, mw_X5_follow.2.2.2, by decide, ⟨by decide, by decide, by decide +kernel⟩⟩
theorem lk_X7_156 : LkV RX7 156 Y_X5_countBlocksAt 1 := ⟨tb_at 722 (by decide +kernel) rfl, mw_X5_countBlocksAt.1, mw_X5_countBlocksAt.2.1, mw_X5_countBlocksAt.2.2.1, mw_X5_countBlocksAt.2.2.2, by decide, ⟨by decide, by decide, by decide +kernel⟩⟩
theorem lk_X7_159 : LkV RX7 159 Y_X5_smallestBlock 1 := ⟨tb_at 591 (by decide +kernel) rfl, mw_X5_smallestBlock.1, mw_X5_smallestBlock.2.1, mw_X5_smallestBlock.2.2.1, mw_X5_smallestBlock.2.2.2, by decide, ⟨by decide, by decide, by decide +kernel⟩⟩
theorem lk_X7_162 : LkV RX7 162 Y_X4_hasPlaces 1 := ⟨tb_at 741 (by decide +kernel) rfl, mw_X4_hasPlaces.1, mw_X4_hasPlaces.2.1, mw_X4_hasPlaces.2.2.1, mw_X4_hasPlaces.2.2.2, by decide, ⟨by decide, by decide, by decide +kernel⟩⟩
theorem lk_X7_167 : LkS RX7 167 Y_J6_bitCount_0f7a4 1 := ⟨tb_at 747 (by decide +kernel) rfl, mw_J6_bitCount_0f7a4.1, mw_J6_bitCount_0f7a4.2.1, mw_J6_bitCount_0f7a4.2.2, by decide, ⟨by decide, by decide, by decide +kernel⟩⟩
theorem lk_X7_172 : LkV RX7 172 Y_X5_totalOf 1 := ⟨tb_at 586 (by decide +kernel) rfl, mw_X5_totalOf.1, mw_X5_totalOf.2.1, mw_X5_totalOf.2.2.1, mw_X5_totalOf.2.2.2, by decide, ⟨by decide, by decide, by decide +kernel⟩⟩
theorem lk_X7_175 : LkV RX7 175 Y_X5_isBlock 1 := ⟨tb_at 620 (by decide +kernel) rfl, mw_X5_isBlock.1, mw_X5_isBlock.2.1, mw_X5_isBlock.2.2.1, mw_X5_isBlock.2.2.2, by decide, ⟨by decide, by decide, by decide +kernel⟩⟩
theorem lk_X7_178 : LkV RX7 178 Y_X5_lengthsOf 1 := ⟨tb_at 748 (by decide +kernel) rfl, mw_X5_lengthsOf.1, mw_X5_lengthsOf.2.1, mw_X5_lengthsOf.2.2.1, mw_X5_lengthsOf.2.2.2, by decide, ⟨by decide, by decide, by decide +kernel⟩⟩
theorem lk_X7_181 : LkV RX7 181 Y_X5_splitsOf 1 := ⟨tb_at 749 (by decide +kernel) rfl, mw_X5_splitsOf.1, mw_X5_splitsOf.2.1, mw_X5_splitsOf.2.2.1, mw_X5_splitsOf.2.2.2, by decide, ⟨by decide, by decide, by decide +kernel⟩⟩
theorem lk_X7_184 : LkV RX7 184 Y_X5_countBlocksIn 1 := ⟨tb_at 753 (by decide +kernel) rfl, mw_X5_countBlocksIn.1, mw_X5_countBlocksIn.2.1, mw_X5_countBlocksIn.2.2.1, mw_X5_countBlocksIn.2.2.2, by decide, ⟨by decide, by decide, by decide +kernel⟩⟩
theorem lk_X7_191 : LkV RX7 191 Y_X5_blockOrNone 1 := ⟨tb_at 859 (by decide +kernel) rfl, mw_X5_blockOrNone.1, mw_X5_blockOrNone.2.1, mw_X5_blockOrNone.2.2.1, mw_X5_blockOrNone.2.2.2, by decide, ⟨by decide, by decide, by decide +kernel⟩⟩
theorem lk_X7_194 : LkV RX7 194 Y_X4_placesOf 1 := ⟨tb_at 612 (by decide +kernel) rfl, mw_X4_placesOf.1, mw_X4_placesOf.2.1, mw_X4_placesOf.2.2.1, mw_X4_placesOf.2.2.2, by decide, ⟨by decide, by decide, by decide +kernel⟩⟩
theorem fl_X7_199 : FLg RX7 199 1 0 := ⟨RX2, TX2, 2, rfl, by decide, uw_X2, rfl, Or.inr (List.mem_of_getElem? (i := 2) (by decide +kernel))⟩
theorem fl_X7_202 : FLg RX7 202 1 1 := ⟨RX2, TX2, 2, rfl, by decide, uw_X2, rfl, Or.inr (List.mem_of_getElem? (i := 5) (by decide +kernel))⟩
theorem fl_X7_205 : FLg RX7 205 4 6 := ⟨RX5, TX5, 8, rfl, by decide, uw_X5, rfl, Or.inr (List.mem_of_getElem? (i := 15) (by decide +kernel))⟩
theorem lk_X7_208 : LkV RX7 208 Y_X5_greatestBlock 0 := ⟨tb_at 601 (by decide +kernel) rfl, mw_X5_greatestBlock.1, mw_X5_greatestBlock.2.1, mw_X5_greatestBlock.2.2.1, mw_X5_greatestBlock.2.2.2, by decide, ⟨by decide, by decide, by decide +kernel⟩⟩
theorem lk_X7_211 : LkV RX7 211 Y_X7_countLaidParts 0 := ⟨tb_at 608 (by decide +kernel) rfl, mw_X7_countLaidParts.1, mw_X7_countLaidParts.2.1, mw_X7_countLaidParts.2.2.1, mw_X7_countLaidParts.2.2.2, by decide, ⟨by decide, by decide, by decide +kernel⟩⟩
theorem lk_X7_214 : LkV RX7 214 Y_X7_countGoodParts 0 := ⟨tb_at 616 (by decide +kernel) rfl, mw_X7_countGoodParts.1, mw_X7_countGoodParts.2.1, mw_X7_countGoodParts.2.2.1, mw_X7_countGoodParts.2.2.2, by decide, ⟨by decide, by decide, by decide +kernel⟩⟩
theorem lk_X7_217 : LkS RX7 217 Y_J13_bitCount_95d88 1 := ⟨tb_at 624 (by decide +kernel) rfl, mw_J13_bitCount_95d88.1, mw_J13_bitCount_95d88.2.1, mw_J13_bitCount_95d88.2.2, by decide, ⟨by decide, by decide, by decide +kernel⟩⟩
theorem fl_X7_222 : FLg RX7 222 0 1 := ⟨RX1, TX1, 7, rfl, by decide, uw_X1, rfl, Or.inr (List.mem_of_getElem? (i := 16) (by decide +kernel))⟩
theorem fp_X7_222 : FLp RX7 222 0 1 .int := ⟨RX1, TX1, 7, rfl, by decide, uw_X1, rfl, Or.inr (List.mem_of_getElem? (i := 16) (by decide +kernel)), rfl, by decide +kernel, ⟨tyX1, tyX1_ok⟩, nmX1⟩
theorem lk_X7_227 : LkV RX7 227 Y_X2_reachedWith 2 := ⟨tb_at 264 (by decide +kernel) rfl, mw_X2_reachedWith.1, mw_X2_reachedWith.2.1, mw_X2_reachedWith.2.2.1, mw_X2_reachedWith.2.2.2, by decide, ⟨by decide, by decide, by decide +kernel⟩⟩
theorem lk_X7_231 : LkV RX7 231 Y_X2_lowestFree 1 := ⟨tb_at 292 (by decide +kernel) rfl, mw_X2_lowestFree.1, mw_X2_lowestFree.2.1, mw_X2_lowestFree.2.2.1, mw_X2_lowestFree.2.2.2, by decide, ⟨by decide, by decide, by decide +kernel⟩⟩
theorem lk_X7_236 : LkV RX7 236 Y_X5_countFreeSets 2 := ⟨tb_at 886 (by decide +kernel) rfl, mw_X5_countFreeSets.1, mw_X5_countFreeSets.2.1, mw_X5_countFreeSets.2.2.1, mw_X5_countFreeSets.2.2.2, by decide, ⟨by decide, by decide, by decide +kernel⟩⟩
theorem fl_X7_239 : FLg RX7 239 4 5 := ⟨RX5, TX5, 8, rfl, by decide, uw_X5, rfl, Or.inr (List.mem_of_getElem? (i := 14) (by decide +kernel))⟩
theorem lk_X7_242 : LkV RX7 242 Y_X4_takesFirstOnes 1 := ⟨tb_at 346 (by decide +kernel) rfl, mw_X4_takesFirstOnes.1, mw_X4_takesFirstOnes.2.1, mw_X4_takesFirstOnes.2.2.1, mw_X4_takesFirstOnes.2.2.2, by decide, ⟨by decide, by decide, by decide +kernel⟩⟩
theorem lk_X7_249 : LkV RX7 249 Y_X1_append 1 := ⟨tb_at 906 (by decide +kernel) rfl, mw_X1_append.1, mw_X1_append.2.1, mw_X1_append.2.2.1, mw_X1_append.2.2.2, by decide, ⟨by decide, by decide, by decide +kernel⟩⟩
theorem lk_X7_250 : LkV RX7 250 Y_X1_findFault 0 := ⟨tb_at 362 (by decide +kernel) rfl, mw_X1_findFault.1, mw_X1_findFault.2.1, mw_X1_findFault.2.2.1, mw_X1_findFault.2.2.2, by decide, ⟨by decide, by decide, by decide +kernel⟩⟩
theorem lk_X7_253 : LkV RX7 253 Y_X1_rewind 0 := ⟨tb_at 479 (by decide +kernel) rfl, mw_X1_rewind.1, mw_X1_rewind.2.1, mw_X1_rewind.2.2.1, mw_X1_rewind.2.2.2, by decide, ⟨by decide, by decide, by decide +kernel⟩⟩
theorem lk_X7_256 : LkV RX7 256 Y_X1_readCommand 0 := ⟨tb_at 480 (by decide +kernel) rfl, mw_X1_readCommand.1, mw_X1_readCommand.2.1, mw_X1_readCommand.2.2.1, mw_X1_readCommand.2.2.2, by decide, ⟨by decide, by decide, by decide +kernel⟩⟩
theorem fl_X7_259 : FLg RX7 259 0 4 := ⟨RX1, TX1, 7, rfl, by decide, uw_X1, rfl, Or.inr (List.mem_of_getElem? (i := 17) (by decide +kernel))⟩
theorem lk_X7_263 : LkV RX7 263 Y_X7_carryOut 1 := ⟨tb_at 481 (by decide +kernel) rfl, mw_X7_carryOut.1, mw_X7_carryOut.2.1, mw_X7_carryOut.2.2.1, mw_X7_carryOut.2.2.2, by decide, ⟨by decide, by decide, by decide +kernel⟩⟩
theorem fl_X7_267 : FLg RX7 267 2 1 := ⟨RX3, TX3, 2, rfl, by decide, uw_X3, rfl, Or.inr (List.mem_of_getElem? (i := 13) (by decide +kernel))⟩
theorem lk_X7_271 : LkV RX7 271 Y_X3_bringBack 1 := ⟨tb_at 918 (by decide +kernel) rfl, mw_X3_bringBack.1, mw_X3_bringBack.2.1, mw_X3_bringBack.2.2.1, mw_X3_bringBack.2.2.2, by decide, ⟨by decide, by decide, by decide +kernel⟩⟩
theorem lk_X7_276 : LkS RX7 276 Y_X7_mixed 2 := ⟨tb_at 578 (by decide +kernel) rfl, mw_X7_mixed.1, mw_X7_mixed.2.1, mw_X7_mixed.2.2, by decide, ⟨by decide, by decide, by decide +kernel⟩⟩
theorem lk_X7_280 : LkV RX7 280 Y_X7_whole 1 := ⟨tb_at 582 (by decide +kernel) rfl, mw_X7_whole.1, mw_X7_whole.2.1, mw_X7_whole.2.2.1, mw_X7_whole.2.2.2, by decide, ⟨by decide, by decide, by decide +kernel⟩⟩
theorem lk_X7_283 : LkV RX7 283 Y_X7_mixedWithPlaces 1 := ⟨tb_at 698 (by decide +kernel) rfl, mw_X7_mixedWithPlaces.1, mw_X7_mixedWithPlaces.2.1, mw_X7_mixedWithPlaces.2.2.1, mw_X7_mixedWithPlaces.2.2.2, by decide, ⟨by decide, by decide, by decide +kernel⟩⟩
theorem lk_X7_287 : LkV RX7 287 Y_X7_mixedWithParts 1 := ⟨tb_at 727 (by decide +kernel) rfl, mw_X7_mixedWithParts.1, mw_X7_mixedWithParts.2.1, mw_X7_mixedWithParts.2.2.1, mw_X7_mixedWithParts.2.2.2, by decide, ⟨by decide, by decide, by decide +kernel⟩⟩
theorem lk_X7_290 : LkV RX7 290 Y_X7_set 2 := ⟨tb_at 737 (by decide +kernel) rfl, mw_X7_set.1, mw_X7_set.2.1, mw_X7_set.2.2.1, mw_X7_set.2.2.2, by decide, ⟨by decide, by decide, by decide +kernel⟩⟩
theorem lk_X7_293 : LkV RX7 293 Y_X7_freeElement 0 := ⟨tb_at 758 (by decide +kernel) rfl, mw_X7_freeElement.1, mw_X7_freeElement.2.1, mw_X7_freeElement.2.2.1, mw_X7_freeElement.2.2.2, by decide, ⟨by decide, by decide, by decide +kernel⟩⟩
theorem lk_X7_296 : LkV RX7 296 Y_X7_unlikeBlocks 0 := ⟨tb_at 759 (by decide +kernel) rfl, mw_X7_unlikeBlocks.1, mw_X7_unlikeBlocks.2.1, mw_X7_unlikeBlocks.2.2.1, mw_X7_unlikeBlocks.2.2.2, by decide, ⟨by decide, by decide, by decide +kernel⟩⟩
theorem lk_X7_299 : LkV RX7 299 Y_X7_cross 0 := ⟨tb_at 760 (by decide +kernel) rfl, mw_X7_cross.1, mw_X7_cross.2.1, mw_X7_cross.2.2.1, mw_X7_cross.2.2.2, by decide, ⟨by decide, by decide, by decide +kernel⟩⟩
theorem lk_X7_303 : LkS RX7 303 Y_X7_bitsOf 1 := ⟨tb_at 761 (by decide +kernel) rfl, mw_X7_bitsOf.1, mw_X7_bitsOf.2.1, mw_X7_bitsOf.2.2, by decide, ⟨by decide, by decide, by decide +kernel⟩⟩
theorem lk_X7_309 : LkV RX7 309 Y_X7_at 2 := ⟨tb_at 702 (by decide +kernel) rfl, mw_X7_at.1, mw_X7_at.2.1, mw_X7_at.2.2.1, mw_X7_at.2.2.2, by decide, ⟨by decide, by decide, by decide +kernel⟩⟩
theorem lk_X7_312 : LkV RX7 312 Y_X7_part 2 := ⟨tb_at 731 (by decide +kernel) rfl, mw_X7_part.1, mw_X7_part.2.1, mw_X7_part.2.2.1, mw_X7_part.2.2.2, by decide, ⟨by decide, by decide, by decide +kernel⟩⟩
theorem lk_X7_319 : LkV RX7 319 Y_X5_mostBlocks 1 := ⟨tb_at 542 (by decide +kernel) rfl, mw_X5_mostBlocks.1, mw_X5_mostBlocks.2.1, mw_X5_mostBlocks.2.2.1, mw_X5_mostBlocks.2.2.2, by decide, ⟨by decide, by decide, by decide +kernel⟩⟩
theorem lk_X7_322 : LkV RX7 322 Y_X5_firstBlockOfSplit 2 := ⟨tb_at 565 (by decide +kernel) rfl, mw_X5_firstBlockOfSplit.1, mw_X5_firstBlockOfSplit.2.1, mw_X5_firstBlockOfSplit.2.2.1, mw_X5_firstBlockOfSplit.2.2.2, by decide, ⟨by decide, by decide, by decide +kernel⟩⟩
theorem lk_X7_325 : LkV RX7 325 Y_X4_layPlaces 2 := ⟨tb_at 569 (by decide +kernel) rfl, mw_X4_layPlaces.1, mw_X4_layPlaces.2.1, mw_X4_layPlaces.2.2.1, mw_X4_layPlaces.2.2.2, by decide, ⟨by decide, by decide, by decide +kernel⟩⟩
theorem fl_X7_338 : FLg RX7 338 0 5 := ⟨RX1, TX1, 7, rfl, by decide, uw_X1, rfl, Or.inr (List.mem_of_getElem? (i := 18) (by decide +kernel))⟩
theorem fl_X7_341 : FLg RX7 341 0 6 := ⟨RX1, TX1, 7, rfl, by decide, uw_X1, rfl, Or.inr (List.mem_of_getElem? (i := 19) (by decide +kernel))⟩
theorem lk_X7_344 : LkV RX7 344 Y_X7_runGroup 2 := ⟨tb_at 493 (by decide +kernel) rfl, mw_X7_runGroup.1, mw_X7_runGroup.2.1, mw_X7_runGroup.2.2.1, mw_X7_runGroup.2.2.2, by decide, ⟨by decide, by decide, by decide +kernel⟩⟩
theorem lk_X7_348 : LkV RX7 348 Y_X7_runAdd 1 := ⟨tb_at 504 (by decide +kernel) rfl, mw_X7_runAdd.1, mw_X7_runAdd.2.1, mw_X7_runAdd.2.2.1, mw_X7_runAdd.2.2.2, by decide, ⟨by decide, by decide, by decide +kernel⟩⟩
theorem lk_X7_351 : LkV RX7 351 Y_X7_runMinus 1 := ⟨tb_at 514 (by decide +kernel) rfl, mw_X7_runMinus.1, mw_X7_runMinus.2.1, mw_X7_runMinus.2.2.1, mw_X7_runMinus.2.2.2, by decide, ⟨by decide, by decide, by decide +kernel⟩⟩
theorem lk_X7_354 : LkV RX7 354 Y_X7_runLay 2 := ⟨tb_at 527 (by decide +kernel) rfl, mw_X7_runLay.1, mw_X7_runLay.2.1, mw_X7_runLay.2.2.1, mw_X7_runLay.2.2.2, by decide, ⟨by decide, by decide, by decide +kernel⟩⟩
theorem fl_X1_9 : FLg RX1 9 0 0 := ⟨RX1, TX1, 7, rfl, by decide, uw_X1, rfl, Or.inl (tb_at 202 (by decide +kernel) rfl)⟩
theorem fl_X1_15 : FLg RX1 15 0 1 := ⟨RX1, TX1, 7, rfl, by decide, uw_X1, rfl, Or.inl (tb_at 203 (by decide +kernel) rfl)⟩
theorem fp_X1_15 : FLp RX1 15 0 1 .int := ⟨RX1, TX1, 7, rfl, by decide, uw_X1, rfl, Or.inl (tb_at 203 (by decide +kernel) rfl), rfl, by decide +kernel, ⟨tyX1, tyX1_ok⟩, nmX1⟩
theorem fl_X1_19 : FLg RX1 19 0 2 := ⟨RX1, TX1, 7, rfl, by decide, uw_X1, rfl, Or.inl (tb_at 205 (by decide +kernel) rfl)⟩
theorem fp_X1_19 : FLp RX1 19 0 2 .int := ⟨RX1, TX1, 7, rfl, by decide, uw_X1, rfl, Or.inl (tb_at 205 (by decide +kernel) rfl), rfl, by decide +kernel, ⟨tyX1, tyX1_ok⟩, nmX1⟩
theorem fl_X1_22 : FLg RX1 22 0 3 := ⟨RX1, TX1, 7, rfl, by decide, uw_X1, rfl, Or.inl (tb_at 206 (by decide +kernel) rfl)⟩
theorem fp_X1_22 : FLp RX1 22 0 3 .int := ⟨RX1, TX1, 7, rfl, by decide, uw_X1, rfl, Or.inl (tb_at 206 (by decide +kernel) rfl), rfl, by decide +kernel, ⟨tyX1, tyX1_ok⟩, nmX1⟩
theorem fl_X1_25 : FLg RX1 25 0 4 := ⟨RX1, TX1, 7, rfl, by decide, uw_X1, rfl, Or.inl (tb_at 207 (by decide +kernel) rfl)⟩
theorem fp_X1_25 : FLp RX1 25 0 4 (.object "ZeroParts$Word") := ⟨RX1, TX1, 7, rfl, by decide, uw_X1, rfl, Or.inl (tb_at 207 (by decide +kernel) rfl), rfl, by decide +kernel, ⟨tyX1, tyX1_ok⟩, nmX1⟩
theorem fl_X1_29 : FLg RX1 29 0 5 := ⟨RX1, TX1, 7, rfl, by decide, uw_X1, rfl, Or.inl (tb_at 209 (by decide +kernel) rfl)⟩
theorem fp_X1_29 : FLp RX1 29 0 5 .int := ⟨RX1, TX1, 7, rfl, by decide, uw_X1, rfl, Or.inl (tb_at 209 (by decide +kernel) rfl), rfl, by decide +kernel, ⟨tyX1, tyX1_ok⟩, nmX1⟩
theorem fl_X1_32 : FLg RX1 32 0 6 := ⟨RX1, TX1, 7, rfl, by decide, uw_X1, rfl, Or.inl (tb_at 211 (by decide +kernel) rfl)⟩
theorem fp_X1_32 : FLp RX1 32 0 6 .int := ⟨RX1, TX1, 7, rfl, by decide, uw_X1, rfl, Or.inl (tb_at 211 (by decide +kernel) rfl), rfl, by decide +kernel, ⟨tyX1, tyX1_ok⟩, nmX1⟩
theorem lk_X1_35 : LkV RX1 35 Y_X1_rewind 0 := ⟨tb_at 366 (by decide +kernel) rfl, mw_X1_rewind.1, mw_X1_rewind.2.1, mw_X1_rewind.2.2.1, mw_X1_rewind.2.2.2, by decide, ⟨by decide, by decide, by decide +kernel⟩⟩
theorem lk_X1_38 : LkV RX1 38 Y_X1_readCommand 0 := ⟨tb_at 370 (by decide +kernel) rfl, mw_X1_readCommand.1, mw_X1_readCommand.2.1, mw_X1_readCommand.2.2.1, mw_X1_readCommand.2.2.2, by decide, ⟨by decide, by decide, by decide +kernel⟩⟩
theorem lk_X1_42 : LkV RX1 42 Y_X1_skipSpaces 0 := ⟨tb_at 374 (by decide +kernel) rfl, mw_X1_skipSpaces.1, mw_X1_skipSpaces.2.1, mw_X1_skipSpaces.2.2.1, mw_X1_skipSpaces.2.2.2, by decide, ⟨by decide, by decide, by decide +kernel⟩⟩
theorem lk_X1_45 : LkV RX1 45 Y_X1_peek 0 := ⟨tb_at 378 (by decide +kernel) rfl, mw_X1_peek.1, mw_X1_peek.2.1, mw_X1_peek.2.2.1, mw_X1_peek.2.2.2, by decide, ⟨by decide, by decide, by decide +kernel⟩⟩
theorem lk_X1_49 : LkV RX1 49 Y_X1_readWord 0 := ⟨tb_at 382 (by decide +kernel) rfl, mw_X1_readWord.1, mw_X1_readWord.2.1, mw_X1_readWord.2.2.1, mw_X1_readWord.2.2.2, by decide, ⟨by decide, by decide, by decide +kernel⟩⟩
theorem lk_X1_58 : LkV RX1 58 Y_X1_readNumbers 1 := ⟨tb_at 451 (by decide +kernel) rfl, mw_X1_readNumbers.1, mw_X1_readNumbers.2.1, mw_X1_readNumbers.2.2.1, mw_X1_readNumbers.2.2.2, by decide, ⟨by decide, by decide, by decide +kernel⟩⟩
theorem lk_X1_62 : LkV RX1 62 Y_X1_readSemicolon 0 := ⟨tb_at 462 (by decide +kernel) rfl, mw_X1_readSemicolon.1, mw_X1_readSemicolon.2.1, mw_X1_readSemicolon.2.2.1, mw_X1_readSemicolon.2.2.2, by decide, ⟨by decide, by decide, by decide +kernel⟩⟩
theorem lk_X1_65 : LkS RX1 65 Y_X1_isLetter 1 := ⟨tb_at 386 (by decide +kernel) rfl, mw_X1_isLetter.1, mw_X1_isLetter.2.1, mw_X1_isLetter.2.2, by decide, ⟨by decide, by decide, by decide +kernel⟩⟩
theorem lk_X1_68 : LkV RX1 68 Y_X1_wordBetween 2 := ⟨tb_at 389 (by decide +kernel) rfl, mw_X1_wordBetween.1, mw_X1_wordBetween.2.1, mw_X1_wordBetween.2.2.1, mw_X1_wordBetween.2.2.2, by decide, ⟨by decide, by decide, by decide +kernel⟩⟩
theorem lk_X1_72 : LkV RX1 72 Y_X1_failAt 1 := ⟨tb_at 447 (by decide +kernel) rfl, mw_X1_failAt.1, mw_X1_failAt.2.1, mw_X1_failAt.2.2.1, mw_X1_failAt.2.2.2, by decide, ⟨by decide, by decide, by decide +kernel⟩⟩
theorem lk_X1_84 : LkV RX1 84 Y_X1_standsBetween 3 := ⟨tb_at 395 (by decide +kernel) rfl, mw_X1_standsBetween.1, mw_X1_standsBetween.2.1, mw_X1_standsBetween.2.2.1, mw_X1_standsBetween.2.2.2, by decide, ⟨by decide, by decide, by decide +kernel⟩⟩
theorem lk_X1_88 : LkV RX1 88 Y_J0_length_8abf5 0 := ⟨tb_at 399 (by decide +kernel) rfl, mw_J0_length_8abf5.1, mw_J0_length_8abf5.2.1, mw_J0_length_8abf5.2.2.1, mw_J0_length_8abf5.2.2.2, by decide, ⟨by decide, by decide, by decide +kernel⟩⟩
theorem lk_X1_92 : LkV RX1 92 Y_J0_charAt_5068e 1 := ⟨tb_at 409 (by decide +kernel) rfl, mw_J0_charAt_5068e.1, mw_J0_charAt_5068e.2.1, mw_J0_charAt_5068e.2.2.1, mw_J0_charAt_5068e.2.2.2, by decide, ⟨by decide, by decide, by decide +kernel⟩⟩
theorem lk_X1_96 : LkV RX1 96 Y_X1_readNumber 0 := ⟨tb_at 455 (by decide +kernel) rfl, mw_X1_readNumber.1, mw_X1_readNumber.2.1, mw_X1_readNumber.2.2.1, mw_X1_readNumber.2.2.2, by decide, ⟨by decide, by decide, by decide +kernel⟩⟩
theorem lk_X1_99 : LkS RX1 99 Y_X1_isDigit 1 := ⟨tb_at 459 (by decide +kernel) rfl, mw_X1_isDigit.1, mw_X1_isDigit.2.1, mw_X1_isDigit.2.2, by decide, ⟨by decide, by decide, by decide +kernel⟩⟩
theorem fl_X2_9 : FLg RX2 9 1 0 := ⟨RX2, TX2, 2, rfl, by decide, uw_X2, rfl, Or.inl (tb_at 110 (by decide +kernel) rfl)⟩
theorem fp_X2_9 : FLp RX2 9 1 0 .int := ⟨RX2, TX2, 2, rfl, by decide, uw_X2, rfl, Or.inl (tb_at 110 (by decide +kernel) rfl), rfl, by decide +kernel, ⟨tyX2, tyX2_ok⟩, nmX2⟩
theorem fl_X2_15 : FLg RX2 15 1 1 := ⟨RX2, TX2, 2, rfl, by decide, uw_X2, rfl, Or.inl (tb_at 114 (by decide +kernel) rfl)⟩
theorem fp_X2_15 : FLp RX2 15 1 1 .int := ⟨RX2, TX2, 2, rfl, by decide, uw_X2, rfl, Or.inl (tb_at 114 (by decide +kernel) rfl), rfl, by decide +kernel, ⟨tyX2, tyX2_ok⟩, nmX2⟩
theorem lk_X2_18 : LkV RX2 18 Y_X2_count 0 := ⟨tb_at 268 (by decide +kernel) rfl, mw_X2_count.1, mw_X2_count.2.1, mw_X2_count.2.2.1, mw_X2_count.2.2.2, by decide, ⟨by decide, by decide, by decide +kernel⟩⟩
theorem lk_X2_22 : LkS RX2 22 Y_X2_remainder 2 := ⟨tb_at 249 (by decide +kernel) rfl, mw_X2_remainder.1, mw_X2_remainder.2.1, mw_X2_remainder.2.2, by decide, ⟨by decide, by decide, by decide +kernel⟩⟩
theorem lk_X2_26 : LkS RX2 26 Y_X2_quotient 2 := ⟨tb_at 257 (by decide +kernel) rfl, mw_X2_quotient.1, mw_X2_quotient.2.1, mw_X2_quotient.2.2, by decide, ⟨by decide, by decide, by decide +kernel⟩⟩
theorem lk_X2_29 : LkV RX2 29 Y_X2_plus 2 := ⟨tb_at 275 (by decide +kernel) rfl, mw_X2_plus.1, mw_X2_plus.2.1, mw_X2_plus.2.2.1, mw_X2_plus.2.2.2, by decide, ⟨by decide, by decide, by decide +kernel⟩⟩
theorem lk_X2_32 : LkV RX2 32 Y_X2_commonDivisor 0 := ⟨tb_at 256 (by decide +kernel) rfl, mw_X2_commonDivisor.1, mw_X2_commonDivisor.2.1, mw_X2_commonDivisor.2.2.1, mw_X2_commonDivisor.2.2.2, by decide, ⟨by decide, by decide, by decide +kernel⟩⟩
theorem lk_X2_35 : LkN RX2 35 Y_X7_contains 2 := ⟨List.mem_of_getElem? (i := 20) (by decide +kernel), mw_X7_contains.1, mw_X7_contains.2.1, mw_X7_contains.2.2, by decide, ⟨by decide, by decide, by decide +kernel⟩⟩
theorem lk_X2_39 : LkV RX2 39 Y_X2_opposite 1 := ⟨tb_at 296 (by decide +kernel) rfl, mw_X2_opposite.1, mw_X2_opposite.2.1, mw_X2_opposite.2.2.1, mw_X2_opposite.2.2.2, by decide, ⟨by decide, by decide, by decide +kernel⟩⟩
theorem fl_X3_11 : FLg RX3 11 2 0 := ⟨RX3, TX3, 2, rfl, by decide, uw_X3, rfl, Or.inl (tb_at 153 (by decide +kernel) rfl)⟩
theorem fl_X3_18 : FLg RX3 18 2 1 := ⟨RX3, TX3, 2, rfl, by decide, uw_X3, rfl, Or.inl (tb_at 154 (by decide +kernel) rfl)⟩
theorem fp_X3_18 : FLp RX3 18 2 1 .int := ⟨RX3, TX3, 2, rfl, by decide, uw_X3, rfl, Or.inl (tb_at 154 (by decide +kernel) rfl), rfl, by decide +kernel, ⟨tyX3, tyX3_ok⟩, nmX3⟩
theorem lk_X3_22 : LkV RX3 22 Y_X3_dropOldest 0 := ⟨tb_at 470 (by decide +kernel) rfl, mw_X3_dropOldest.1, mw_X3_dropOldest.2.1, mw_X3_dropOldest.2.2.1, mw_X3_dropOldest.2.2.2, by decide, ⟨by decide, by decide, by decide +kernel⟩⟩
theorem lk_X3_25 : LkV RX3 25 Y_X4_copyFrom 1 := ⟨tb_at 474 (by decide +kernel) rfl, mw_X4_copyFrom.1, mw_X4_copyFrom.2.1, mw_X4_copyFrom.2.2.1, mw_X4_copyFrom.2.2.2, by decide, ⟨by decide, by decide, by decide +kernel⟩⟩
theorem fl_X4_12 : FLg RX4 12 3 0 := ⟨RX4, TX4, 4, rfl, by decide, uw_X4, rfl, Or.inl (tb_at 123 (by decide +kernel) rfl)⟩
theorem fl_X4_18 : FLg RX4 18 3 1 := ⟨RX4, TX4, 4, rfl, by decide, uw_X4, rfl, Or.inl (tb_at 126 (by decide +kernel) rfl)⟩
theorem fl_X4_22 : FLg RX4 22 3 2 := ⟨RX4, TX4, 4, rfl, by decide, uw_X4, rfl, Or.inl (tb_at 129 (by decide +kernel) rfl)⟩
theorem fl_X4_25 : FLg RX4 25 3 3 := ⟨RX4, TX4, 4, rfl, by decide, uw_X4, rfl, Or.inl (tb_at 131 (by decide +kernel) rfl)⟩
theorem fp_X4_25 : FLp RX4 25 3 3 .int := ⟨RX4, TX4, 4, rfl, by decide, uw_X4, rfl, Or.inl (tb_at 131 (by decide +kernel) rfl), rfl, by decide +kernel, ⟨tyX4, tyX4_ok⟩, nmX4⟩
theorem fl_X4_29 : FLg RX4 29 1 0 := ⟨RX2, TX2, 2, rfl, by decide, uw_X2, rfl, Or.inr (List.mem_of_getElem? (i := 0) (by decide +kernel))⟩
theorem fl_X4_32 : FLg RX4 32 1 1 := ⟨RX2, TX2, 2, rfl, by decide, uw_X2, rfl, Or.inr (List.mem_of_getElem? (i := 3) (by decide +kernel))⟩
theorem lk_X4_35 : LkV RX4 35 Y_X2_become 2 := ⟨tb_at 478 (by decide +kernel) rfl, mw_X2_become.1, mw_X2_become.2.1, mw_X2_become.2.2.1, mw_X2_become.2.2.2, by decide, ⟨by decide, by decide, by decide +kernel⟩⟩
theorem lk_X4_39 : LkV RX4 39 Y_X4_allPlaces 0 := ⟨tb_at 745 (by decide +kernel) rfl, mw_X4_allPlaces.1, mw_X4_allPlaces.2.1, mw_X4_allPlaces.2.2.1, mw_X4_allPlaces.2.2.2, by decide, ⟨by decide, by decide, by decide +kernel⟩⟩
theorem lk_X4_43 : LkV RX4 43 Y_X4_isFull 0 := ⟨tb_at 340 (by decide +kernel) rfl, mw_X4_isFull.1, mw_X4_isFull.2.1, mw_X4_isFull.2.2.1, mw_X4_isFull.2.2.2, by decide, ⟨by decide, by decide, by decide +kernel⟩⟩
theorem lk_X4_47 : LkV RX4 47 Y_X4_hasPlace 1 := ⟨tb_at 526 (by decide +kernel) rfl, mw_X4_hasPlace.1, mw_X4_hasPlace.2.1, mw_X4_hasPlace.2.2.1, mw_X4_hasPlace.2.2.2, by decide, ⟨by decide, by decide, by decide +kernel⟩⟩
theorem lk_X4_51 : LkV RX4 51 Y_X4_skipsBefore 2 := ⟨tb_at 350 (by decide +kernel) rfl, mw_X4_skipsBefore.1, mw_X4_skipsBefore.2.1, mw_X4_skipsBefore.2.2.1, mw_X4_skipsBefore.2.2.2, by decide, ⟨by decide, by decide, by decide +kernel⟩⟩
theorem fl_X5_12 : FLg RX5 12 4 0 := ⟨RX5, TX5, 8, rfl, by decide, uw_X5, rfl, Or.inl (tb_at 169 (by decide +kernel) rfl)⟩
theorem fl_X5_18 : FLg RX5 18 4 1 := ⟨RX5, TX5, 8, rfl, by decide, uw_X5, rfl, Or.inl (tb_at 170 (by decide +kernel) rfl)⟩
theorem fl_X5_22 : FLg RX5 22 4 2 := ⟨RX5, TX5, 8, rfl, by decide, uw_X5, rfl, Or.inl (tb_at 171 (by decide +kernel) rfl)⟩
theorem fl_X5_25 : FLg RX5 25 4 3 := ⟨RX5, TX5, 8, rfl, by decide, uw_X5, rfl, Or.inl (tb_at 172 (by decide +kernel) rfl)⟩
theorem fl_X5_28 : FLg RX5 28 4 4 := ⟨RX5, TX5, 8, rfl, by decide, uw_X5, rfl, Or.inl (tb_at 173 (by decide +kernel) rfl)⟩
theorem fl_X5_31 : FLg RX5 31 4 5 := ⟨RX5, TX5, 8, rfl, by decide, uw_X5, rfl, Or.inl (tb_at 174 (by decide +kernel) rfl)⟩
theorem fl_X5_34 : FLg RX5 34 4 6 := ⟨RX5, TX5, 8, rfl, by decide, uw_X5, rfl, Or.inl (tb_at 176 (by decide +kernel) rfl)⟩
theorem fp_X5_34 : FLp RX5 34 4 6 .int := ⟨RX5, TX5, 8, rfl, by decide, uw_X5, rfl, Or.inl (tb_at 176 (by decide +kernel) rfl), rfl, by decide +kernel, ⟨tyX5, tyX5_ok⟩, nmX5⟩
theorem fl_X5_38 : FLg RX5 38 4 7 := ⟨RX5, TX5, 8, rfl, by decide, uw_X5, rfl, Or.inl (tb_at 178 (by decide +kernel) rfl)⟩
theorem fp_X5_38 : FLp RX5 38 4 7 .int := ⟨RX5, TX5, 8, rfl, by decide, uw_X5, rfl, Or.inl (tb_at 178 (by decide +kernel) rfl), rfl, by decide +kernel, ⟨tyX5, tyX5_ok⟩, nmX5⟩
theorem lk_X5_41 : LkV RX5 41 Y_X5_samePlaces 1 := ⟨tb_at 313 (by decide +kernel) rfl, mw_X5_samePlaces.1, mw_X5_samePlaces.2.1, mw_X5_samePlaces.2.2.1, mw_X5_samePlaces.2.2.2, by decide, ⟨by decide, by decide, by decide +kernel⟩⟩
theorem fl_X5_45 : FLg RX5 45 3 3 := ⟨RX4, TX4, 4, rfl, by decide, uw_X4, rfl, Or.inr (List.mem_of_getElem? (i := 11) (by decide +kernel))⟩
theorem fp_X5_45 : FLp RX5 45 3 3 .int := ⟨RX4, TX4, 4, rfl, by decide, uw_X4, rfl, Or.inr (List.mem_of_getElem? (i := 11) (by decide +kernel)), rfl, by decide +kernel, ⟨tyX4, tyX4_ok⟩, nmX4⟩
theorem lk_X5_48 : LkV RX5 48 Y_X5_cutTo 1 := ⟨tb_at 320 (by decide +kernel) rfl, mw_X5_cutTo.1, mw_X5_cutTo.2.1, mw_X5_cutTo.2.2.1, mw_X5_cutTo.2.2.2, by decide, ⟨by decide, by decide, by decide +kernel⟩⟩
theorem fl_X5_52 : FLg RX5 52 3 0 := ⟨RX4, TX4, 4, rfl, by decide, uw_X4, rfl, Or.inr (List.mem_of_getElem? (i := 6) (by decide +kernel))⟩
theorem fl_X5_56 : FLg RX5 56 1 0 := ⟨RX2, TX2, 2, rfl, by decide, uw_X2, rfl, Or.inr (List.mem_of_getElem? (i := 1) (by decide +kernel))⟩
theorem fl_X5_61 : FLg RX5 61 1 1 := ⟨RX2, TX2, 2, rfl, by decide, uw_X2, rfl, Or.inr (List.mem_of_getElem? (i := 4) (by decide +kernel))⟩
theorem lk_X5_64 : LkV RX5 64 Y_X2_become 2 := ⟨tb_at 324 (by decide +kernel) rfl, mw_X2_become.1, mw_X2_become.2.1, mw_X2_become.2.2.1, mw_X2_become.2.2.2, by decide, ⟨by decide, by decide, by decide +kernel⟩⟩
theorem fl_X5_68 : FLg RX5 68 3 1 := ⟨RX4, TX4, 4, rfl, by decide, uw_X4, rfl, Or.inr (List.mem_of_getElem? (i := 8) (by decide +kernel))⟩
theorem lk_X5_71 : LkV RX5 71 Y_X5_tablePlace 1 := ⟨tb_at 328 (by decide +kernel) rfl, mw_X5_tablePlace.1, mw_X5_tablePlace.2.1, mw_X5_tablePlace.2.2.1, mw_X5_tablePlace.2.2.2, by decide, ⟨by decide, by decide, by decide +kernel⟩⟩
theorem lk_X5_74 : LkS RX5 74 Y_X5_isSet 1 := ⟨tb_at 558 (by decide +kernel) rfl, mw_X5_isSet.1, mw_X5_isSet.2.1, mw_X5_isSet.2.2, by decide, ⟨by decide, by decide, by decide +kernel⟩⟩
theorem lk_X5_78 : LkS RX5 78 Y_J6_bitCount_0f7a4 1 := ⟨tb_at 595 (by decide +kernel) rfl, mw_J6_bitCount_0f7a4.1, mw_J6_bitCount_0f7a4.2.1, mw_J6_bitCount_0f7a4.2.2, by decide, ⟨by decide, by decide, by decide +kernel⟩⟩
theorem lk_X5_84 : LkS RX5 84 Y_J9_max_7cf53 2 := ⟨tb_at 605 (by decide +kernel) rfl, mw_J9_max_7cf53.1, mw_J9_max_7cf53.2.1, mw_J9_max_7cf53.2.2, by decide, ⟨by decide, by decide, by decide +kernel⟩⟩
theorem lk_X5_90 : LkV RX5 90 Y_X5_tableSplits 0 := ⟨tb_at 550 (by decide +kernel) rfl, mw_X5_tableSplits.1, mw_X5_tableSplits.2.1, mw_X5_tableSplits.2.2.1, mw_X5_tableSplits.2.2.2, by decide, ⟨by decide, by decide, by decide +kernel⟩⟩
theorem lk_X5_93 : LkV RX5 93 Y_X5_lengthsOf 1 := ⟨tb_at 546 (by decide +kernel) rfl, mw_X5_lengthsOf.1, mw_X5_lengthsOf.2.1, mw_X5_lengthsOf.2.2.1, mw_X5_lengthsOf.2.2.2, by decide, ⟨by decide, by decide, by decide +kernel⟩⟩
theorem lk_X5_96 : LkS RX5 96 Y_J9_min_7cf53 2 := ⟨tb_at 317 (by decide +kernel) rfl, mw_J9_min_7cf53.1, mw_J9_min_7cf53.2.1, mw_J9_min_7cf53.2.2, by decide, ⟨by decide, by decide, by decide +kernel⟩⟩
theorem lk_X5_99 : LkV RX5 99 Y_X4_isFull 0 := ⟨tb_at 332 (by decide +kernel) rfl, mw_X4_isFull.1, mw_X4_isFull.2.1, mw_X4_isFull.2.2.1, mw_X4_isFull.2.2.2, by decide, ⟨by decide, by decide, by decide +kernel⟩⟩
theorem lk_X5_103 : LkV RX5 103 Y_X4_append 1 := ⟨tb_at 336 (by decide +kernel) rfl, mw_X4_append.1, mw_X4_append.2.1, mw_X4_append.2.2.1, mw_X4_append.2.2.2, by decide, ⟨by decide, by decide, by decide +kernel⟩⟩
theorem lk_X5_106 : LkV RX5 106 Y_X2_plus 2 := ⟨tb_at 341 (by decide +kernel) rfl, mw_X2_plus.1, mw_X2_plus.2.1, mw_X2_plus.2.2.1, mw_X2_plus.2.2.2, by decide, ⟨by decide, by decide, by decide +kernel⟩⟩
theorem lk_X5_109 : LkV RX5 109 Y_X5_kindOf 1 := ⟨tb_at 342 (by decide +kernel) rfl, mw_X5_kindOf.1, mw_X5_kindOf.2.1, mw_X5_kindOf.2.2.1, mw_X5_kindOf.2.2.2, by decide, ⟨by decide, by decide, by decide +kernel⟩⟩
theorem lk_X5_112 : LkV RX5 112 Y_X5_tableSplitsOf 1 := ⟨tb_at 554 (by decide +kernel) rfl, mw_X5_tableSplitsOf.1, mw_X5_tableSplitsOf.2.1, mw_X5_tableSplitsOf.2.2.1, mw_X5_tableSplitsOf.2.2.2, by decide, ⟨by decide, by decide, by decide +kernel⟩⟩
theorem fl_X8_7 : FLg RX8 7 6 0 := ⟨RX8, TX8, 18, rfl, by decide, uw_X8, rfl, Or.inl (tb_at 928 (by decide +kernel) rfl)⟩
theorem fl_X8_13 : FLg RX8 13 6 1 := ⟨RX8, TX8, 18, rfl, by decide, uw_X8, rfl, Or.inl (tb_at 929 (by decide +kernel) rfl)⟩
theorem fl_X8_16 : FLg RX8 16 6 5 := ⟨RX8, TX8, 18, rfl, by decide, uw_X8, rfl, Or.inl (tb_at 933 (by decide +kernel) rfl)⟩
theorem fl_X8_19 : FLg RX8 19 6 7 := ⟨RX8, TX8, 18, rfl, by decide, uw_X8, rfl, Or.inl (tb_at 935 (by decide +kernel) rfl)⟩
theorem fl_X8_22 : FLg RX8 22 6 11 := ⟨RX8, TX8, 18, rfl, by decide, uw_X8, rfl, Or.inl (tb_at 939 (by decide +kernel) rfl)⟩
theorem fl_X8_25 : FLg RX8 25 6 13 := ⟨RX8, TX8, 18, rfl, by decide, uw_X8, rfl, Or.inl (tb_at 941 (by decide +kernel) rfl)⟩
theorem fl_X8_28 : FLg RX8 28 6 14 := ⟨RX8, TX8, 18, rfl, by decide, uw_X8, rfl, Or.inl (tb_at 942 (by decide +kernel) rfl)⟩
theorem fl_X8_32 : FLg RX8 32 6 15 := ⟨RX8, TX8, 18, rfl, by decide, uw_X8, rfl, Or.inl (tb_at 943 (by decide +kernel) rfl)⟩
theorem fl_X8_35 : FLg RX8 35 6 16 := ⟨RX8, TX8, 18, rfl, by decide, uw_X8, rfl, Or.inl (tb_at 944 (by decide +kernel) rfl)⟩
theorem fl_X8_38 : FLg RX8 38 6 17 := ⟨RX8, TX8, 18, rfl, by decide, uw_X8, rfl, Or.inl (tb_at 945 (by decide +kernel) rfl)⟩
theorem fl_X8_41 : FLg RX8 41 6 3 := ⟨RX8, TX8, 18, rfl, by decide, uw_X8, rfl, Or.inl (tb_at 931 (by decide +kernel) rfl)⟩
theorem fp_X8_41 : FLp RX8 41 6 3 .int := ⟨RX8, TX8, 18, rfl, by decide, uw_X8, rfl, Or.inl (tb_at 931 (by decide +kernel) rfl), rfl, by decide +kernel, ⟨tyX8, tyX8_ok⟩, nmX8⟩
theorem fl_X8_45 : FLg RX8 45 6 4 := ⟨RX8, TX8, 18, rfl, by decide, uw_X8, rfl, Or.inl (tb_at 932 (by decide +kernel) rfl)⟩
theorem fp_X8_45 : FLp RX8 45 6 4 .boolean := ⟨RX8, TX8, 18, rfl, by decide, uw_X8, rfl, Or.inl (tb_at 932 (by decide +kernel) rfl), rfl, by decide +kernel, ⟨tyX8, tyX8_ok⟩, nmX8⟩
theorem fl_X8_49 : FLg RX8 49 6 2 := ⟨RX8, TX8, 18, rfl, by decide, uw_X8, rfl, Or.inl (tb_at 930 (by decide +kernel) rfl)⟩
theorem fp_X8_49 : FLp RX8 49 6 2 .int := ⟨RX8, TX8, 18, rfl, by decide, uw_X8, rfl, Or.inl (tb_at 930 (by decide +kernel) rfl), rfl, by decide +kernel, ⟨tyX8, tyX8_ok⟩, nmX8⟩
theorem lk_X8_52 : LkV RX8 52 Y_X8_refused 1 := ⟨tb_at 992 (by decide +kernel) rfl, mw_X8_refused.1, mw_X8_refused.2.1, mw_X8_refused.2.2.1, mw_X8_refused.2.2.2, by decide, ⟨by decide, by decide, by decide +kernel⟩⟩
theorem lk_X8_56 : LkV RX8 56 Y_X8_size 0 := ⟨tb_at 1007 (by decide +kernel) rfl, mw_X8_size.1, mw_X8_size.2.1, mw_X8_size.2.2.1, mw_X8_size.2.2.2, by decide, ⟨by decide, by decide, by decide +kernel⟩⟩
theorem lk_X8_60 : LkS RX8 60 Y_X8_within 3 := ⟨tb_at 1000 (by decide +kernel) rfl, mw_X8_within.1, mw_X8_within.2.1, mw_X8_within.2.2, by decide, ⟨by decide, by decide, by decide +kernel⟩⟩
theorem lk_X8_64 : LkV RX8 64 Y_X8_plus 2 := ⟨tb_at 1019 (by decide +kernel) rfl, mw_X8_plus.1, mw_X8_plus.2.1, mw_X8_plus.2.2.1, mw_X8_plus.2.2.2, by decide, ⟨by decide, by decide, by decide +kernel⟩⟩
theorem lk_X8_68 : LkV RX8 68 Y_X8_orderOf 1 := ⟨tb_at 1109 (by decide +kernel) rfl, mw_X8_orderOf.1, mw_X8_orderOf.2.1, mw_X8_orderOf.2.2.1, mw_X8_orderOf.2.2.2, by decide, ⟨by decide, by decide, by decide +kernel⟩⟩
theorem lk_X8_72 : LkV RX8 72 Y_X8_saves 0 := ⟨tb_at 1003 (by decide +kernel) rfl, mw_X8_saves.1, mw_X8_saves.2.1, mw_X8_saves.2.2.1, mw_X8_saves.2.2.2, by decide, ⟨by decide, by decide, by decide +kernel⟩⟩
theorem lk_X8_75 : LkV RX8 75 Y_X8_isElement 1 := ⟨tb_at 1015 (by decide +kernel) rfl, mw_X8_isElement.1, mw_X8_isElement.2.1, mw_X8_isElement.2.2.1, mw_X8_isElement.2.2.2, by decide, ⟨by decide, by decide, by decide +kernel⟩⟩
theorem lk_X8_78 : LkV RX8 78 Y_X8_isPlace 1 := ⟨tb_at 1035 (by decide +kernel) rfl, mw_X8_isPlace.1, mw_X8_isPlace.2.1, mw_X8_isPlace.2.2.1, mw_X8_isPlace.2.2.2, by decide, ⟨by decide, by decide, by decide +kernel⟩⟩
theorem fl_X8_81 : FLg RX8 81 6 12 := ⟨RX8, TX8, 18, rfl, by decide, uw_X8, rfl, Or.inl (tb_at 940 (by decide +kernel) rfl)⟩
theorem fp_X8_81 : FLp RX8 81 6 12 .int := ⟨RX8, TX8, 18, rfl, by decide, uw_X8, rfl, Or.inl (tb_at 940 (by decide +kernel) rfl), rfl, by decide +kernel, ⟨tyX8, tyX8_ok⟩, nmX8⟩
theorem lk_X8_84 : LkS RX8 84 Y_X8_has 2 := ⟨tb_at 1051 (by decide +kernel) rfl, mw_X8_has.1, mw_X8_has.2.1, mw_X8_has.2.2, by decide, ⟨by decide, by decide, by decide +kernel⟩⟩
theorem lk_X8_88 : LkV RX8 88 Y_X8_isIn 2 := ⟨tb_at 1058 (by decide +kernel) rfl, mw_X8_isIn.1, mw_X8_isIn.2.1, mw_X8_isIn.2.2.1, mw_X8_isIn.2.2.2, by decide, ⟨by decide, by decide, by decide +kernel⟩⟩
theorem lk_X8_91 : LkV RX8 91 Y_X8_isBlock 1 := ⟨tb_at 1062 (by decide +kernel) rfl, mw_X8_isBlock.1, mw_X8_isBlock.2.1, mw_X8_isBlock.2.2.1, mw_X8_isBlock.2.2.2, by decide, ⟨by decide, by decide, by decide +kernel⟩⟩
theorem lk_X8_94 : LkV RX8 94 Y_X8_looks 1 := ⟨tb_at 1047 (by decide +kernel) rfl, mw_X8_looks.1, mw_X8_looks.2.1, mw_X8_looks.2.2.1, mw_X8_looks.2.2.2, by decide, ⟨by decide, by decide, by decide +kernel⟩⟩
theorem lk_X8_98 : LkV RX8 98 Y_X8_splitsAll 0 := ⟨tb_at 1054 (by decide +kernel) rfl, mw_X8_splitsAll.1, mw_X8_splitsAll.2.1, mw_X8_splitsAll.2.2.1, mw_X8_splitsAll.2.2.2, by decide, ⟨by decide, by decide, by decide +kernel⟩⟩
theorem lk_X8_101 : LkV RX8 101 Y_X8_all 0 := ⟨tb_at 1066 (by decide +kernel) rfl, mw_X8_all.1, mw_X8_all.2.1, mw_X8_all.2.2.1, mw_X8_all.2.2.2, by decide, ⟨by decide, by decide, by decide +kernel⟩⟩
theorem lk_X8_104 : LkV RX8 104 Y_X8_most 1 := ⟨tb_at 1070 (by decide +kernel) rfl, mw_X8_most.1, mw_X8_most.2.1, mw_X8_most.2.2.1, mw_X8_most.2.2.2, by decide, ⟨by decide, by decide, by decide +kernel⟩⟩
theorem lk_X8_107 : LkS RX8 107 Y_X8_bits 1 := ⟨tb_at 1086 (by decide +kernel) rfl, mw_X8_bits.1, mw_X8_bits.2.1, mw_X8_bits.2.2, by decide, ⟨by decide, by decide, by decide +kernel⟩⟩
theorem lk_X8_110 : LkV RX8 110 Y_X8_blocksIn 1 := ⟨tb_at 1089 (by decide +kernel) rfl, mw_X8_blocksIn.1, mw_X8_blocksIn.2.1, mw_X8_blocksIn.2.2.1, mw_X8_blocksIn.2.2.2, by decide, ⟨by decide, by decide, by decide +kernel⟩⟩
theorem lk_X8_113 : LkV RX8 113 Y_X8_isSet 1 := ⟨tb_at 1078 (by decide +kernel) rfl, mw_X8_isSet.1, mw_X8_isSet.2.1, mw_X8_isSet.2.2.1, mw_X8_isSet.2.2.2, by decide, ⟨by decide, by decide, by decide +kernel⟩⟩
theorem lk_X8_116 : LkV RX8 116 Y_X8_setTells 2 := ⟨tb_at 1082 (by decide +kernel) rfl, mw_X8_setTells.1, mw_X8_setTells.2.1, mw_X8_setTells.2.2.1, mw_X8_setTells.2.2.2, by decide, ⟨by decide, by decide, by decide +kernel⟩⟩
theorem lk_X8_119 : LkV RX8 119 Y_X8_sumSet 0 := ⟨tb_at 1101 (by decide +kernel) rfl, mw_X8_sumSet.1, mw_X8_sumSet.2.1, mw_X8_sumSet.2.2.1, mw_X8_sumSet.2.2.2, by decide, ⟨by decide, by decide, by decide +kernel⟩⟩
theorem lk_X8_123 : LkV RX8 123 Y_X8_lessOf 1 := ⟨tb_at 1113 (by decide +kernel) rfl, mw_X8_lessOf.1, mw_X8_lessOf.2.1, mw_X8_lessOf.2.2.1, mw_X8_lessOf.2.2.2, by decide, ⟨by decide, by decide, by decide +kernel⟩⟩
theorem lk_X8_126 : LkV RX8 126 Y_X8_timesOf 1 := ⟨tb_at 1117 (by decide +kernel) rfl, mw_X8_timesOf.1, mw_X8_timesOf.2.1, mw_X8_timesOf.2.2.1, mw_X8_timesOf.2.2.2, by decide, ⟨by decide, by decide, by decide +kernel⟩⟩
theorem lk_X8_129 : LkV RX8 129 Y_X8_blocksAt 2 := ⟨tb_at 1125 (by decide +kernel) rfl, mw_X8_blocksAt.1, mw_X8_blocksAt.2.1, mw_X8_blocksAt.2.2.1, mw_X8_blocksAt.2.2.2, by decide, ⟨by decide, by decide, by decide +kernel⟩⟩
theorem lk_X8_133 : LkV RX8 133 Y_X8_partSet 1 := ⟨tb_at 1133 (by decide +kernel) rfl, mw_X8_partSet.1, mw_X8_partSet.2.1, mw_X8_partSet.2.2.1, mw_X8_partSet.2.2.2, by decide, ⟨by decide, by decide, by decide +kernel⟩⟩
theorem lk_X8_136 : LkV RX8 136 Y_X8_exponent 0 := ⟨tb_at 1145 (by decide +kernel) rfl, mw_X8_exponent.1, mw_X8_exponent.2.1, mw_X8_exponent.2.2.1, mw_X8_exponent.2.2.2, by decide, ⟨by decide, by decide, by decide +kernel⟩⟩
theorem lk_X8_139 : LkV RX8 139 Y_X8_blockSize 1 := ⟨tb_at 1149 (by decide +kernel) rfl, mw_X8_blockSize.1, mw_X8_blockSize.2.1, mw_X8_blockSize.2.2.1, mw_X8_blockSize.2.2.2, by decide, ⟨by decide, by decide, by decide +kernel⟩⟩
theorem lk_X8_143 : LkV RX8 143 Y_X8_partsThat 1 := ⟨tb_at 1153 (by decide +kernel) rfl, mw_X8_partsThat.1, mw_X8_partsThat.2.1, mw_X8_partsThat.2.2.1, mw_X8_partsThat.2.2.2, by decide, ⟨by decide, by decide, by decide +kernel⟩⟩
theorem lk_X8_146 : LkV RX8 146 Y_X8_sumMany 0 := ⟨tb_at 1157 (by decide +kernel) rfl, mw_X8_sumMany.1, mw_X8_sumMany.2.1, mw_X8_sumMany.2.2.1, mw_X8_sumMany.2.2.2, by decide, ⟨by decide, by decide, by decide +kernel⟩⟩
theorem fl_X8_149 : FLg RX8 149 6 6 := ⟨RX8, TX8, 18, rfl, by decide, uw_X8, rfl, Or.inl (tb_at 934 (by decide +kernel) rfl)⟩
theorem fp_X8_149 : FLp RX8 149 6 6 .int := ⟨RX8, TX8, 18, rfl, by decide, uw_X8, rfl, Or.inl (tb_at 934 (by decide +kernel) rfl), rfl, by decide +kernel, ⟨tyX8, tyX8_ok⟩, nmX8⟩
theorem lk_X8_152 : LkV RX8 152 Y_X8_wholeTells 1 := ⟨tb_at 1141 (by decide +kernel) rfl, mw_X8_wholeTells.1, mw_X8_wholeTells.2.1, mw_X8_wholeTells.2.2.1, mw_X8_wholeTells.2.2.2, by decide, ⟨by decide, by decide, by decide +kernel⟩⟩
theorem lk_X8_155 : LkV RX8 155 Y_X8_with 2 := ⟨tb_at 1177 (by decide +kernel) rfl, mw_X8_with.1, mw_X8_with.2.1, mw_X8_with.2.2.1, mw_X8_with.2.2.2, by decide, ⟨by decide, by decide, by decide +kernel⟩⟩
theorem lk_X8_159 : LkV RX8 159 Y_X8_freeBy 1 := ⟨tb_at 1173 (by decide +kernel) rfl, mw_X8_freeBy.1, mw_X8_freeBy.2.1, mw_X8_freeBy.2.2.1, mw_X8_freeBy.2.2.2, by decide, ⟨by decide, by decide, by decide +kernel⟩⟩
theorem lk_X8_163 : LkV RX8 163 Y_X8_areAlike 2 := ⟨tb_at 1193 (by decide +kernel) rfl, mw_X8_areAlike.1, mw_X8_areAlike.2.1, mw_X8_areAlike.2.2.1, mw_X8_areAlike.2.2.2, by decide, ⟨by decide, by decide, by decide +kernel⟩⟩
theorem fl_X8_166 : FLg RX8 166 6 8 := ⟨RX8, TX8, 18, rfl, by decide, uw_X8, rfl, Or.inl (tb_at 936 (by decide +kernel) rfl)⟩
theorem fp_X8_166 : FLp RX8 166 6 8 .int := ⟨RX8, TX8, 18, rfl, by decide, uw_X8, rfl, Or.inl (tb_at 936 (by decide +kernel) rfl), rfl, by decide +kernel, ⟨tyX8, tyX8_ok⟩, nmX8⟩
theorem lk_X8_169 : LkV RX8 169 Y_X8_here 0 := ⟨tb_at 1221 (by decide +kernel) rfl, mw_X8_here.1, mw_X8_here.2.1, mw_X8_here.2.2.1, mw_X8_here.2.2.2, by decide, ⟨by decide, by decide, by decide +kernel⟩⟩
theorem fl_X8_172 : FLg RX8 172 6 10 := ⟨RX8, TX8, 18, rfl, by decide, uw_X8, rfl, Or.inl (tb_at 938 (by decide +kernel) rfl)⟩
theorem fp_X8_172 : FLp RX8 172 6 10 .int := ⟨RX8, TX8, 18, rfl, by decide, uw_X8, rfl, Or.inl (tb_at 938 (by decide +kernel) rfl), rfl, by decide +kernel, ⟨tyX8, tyX8_ok⟩, nmX8⟩
theorem lk_X8_175 : LkV RX8 175 Y_X8_reads 6 := ⟨tb_at 1233 (by decide +kernel) rfl, mw_X8_reads.1, mw_X8_reads.2.1, mw_X8_reads.2.2.1, mw_X8_reads.2.2.2, by decide, ⟨by decide, by decide, by decide +kernel⟩⟩
theorem lk_X8_179 : LkV RX8 179 Y_X8_fails 1 := ⟨tb_at 1237 (by decide +kernel) rfl, mw_X8_fails.1, mw_X8_fails.2.1, mw_X8_fails.2.2.1, mw_X8_fails.2.2.2, by decide, ⟨by decide, by decide, by decide +kernel⟩⟩
theorem lk_X8_182 : LkV RX8 182 Y_X8_skips 0 := ⟨tb_at 1217 (by decide +kernel) rfl, mw_X8_skips.1, mw_X8_skips.2.1, mw_X8_skips.2.2.1, mw_X8_skips.2.2.2, by decide, ⟨by decide, by decide, by decide +kernel⟩⟩
theorem lk_X8_185 : LkV RX8 185 Y_X8_word 1 := ⟨tb_at 1229 (by decide +kernel) rfl, mw_X8_word.1, mw_X8_word.2.1, mw_X8_word.2.2.1, mw_X8_word.2.2.2, by decide, ⟨by decide, by decide, by decide +kernel⟩⟩
theorem fl_X8_188 : FLg RX8 188 6 9 := ⟨RX8, TX8, 18, rfl, by decide, uw_X8, rfl, Or.inl (tb_at 937 (by decide +kernel) rfl)⟩
theorem fp_X8_188 : FLp RX8 188 6 9 .int := ⟨RX8, TX8, 18, rfl, by decide, uw_X8, rfl, Or.inl (tb_at 937 (by decide +kernel) rfl), rfl, by decide +kernel, ⟨tyX8, tyX8_ok⟩, nmX8⟩
theorem lk_X8_191 : LkS RX8 191 Y_X8_numbersOf 1 := ⟨tb_at 1241 (by decide +kernel) rfl, mw_X8_numbersOf.1, mw_X8_numbersOf.2.1, mw_X8_numbersOf.2.2, by decide, ⟨by decide, by decide, by decide +kernel⟩⟩
theorem lk_X8_194 : LkV RX8 194 Y_X8_number 1 := ⟨tb_at 1244 (by decide +kernel) rfl, mw_X8_number.1, mw_X8_number.2.1, mw_X8_number.2.2.1, mw_X8_number.2.2.2, by decide, ⟨by decide, by decide, by decide +kernel⟩⟩
theorem lk_X8_197 : LkV RX8 197 Y_X8_readsCommand 0 := ⟨tb_at 1225 (by decide +kernel) rfl, mw_X8_readsCommand.1, mw_X8_readsCommand.2.1, mw_X8_readsCommand.2.2.1, mw_X8_readsCommand.2.2.2, by decide, ⟨by decide, by decide, by decide +kernel⟩⟩
theorem lk_X8_201 : LkV RX8 201 Y_X8_begin 2 := ⟨tb_at 1252 (by decide +kernel) rfl, mw_X8_begin.1, mw_X8_begin.2.1, mw_X8_begin.2.2.1, mw_X8_begin.2.2.2, by decide, ⟨by decide, by decide, by decide +kernel⟩⟩
theorem lk_X8_204 : LkV RX8 204 Y_X8_add 1 := ⟨tb_at 1253 (by decide +kernel) rfl, mw_X8_add.1, mw_X8_add.2.1, mw_X8_add.2.2.1, mw_X8_add.2.2.2, by decide, ⟨by decide, by decide, by decide +kernel⟩⟩
theorem lk_X8_207 : LkV RX8 207 Y_X8_removeAt 1 := ⟨tb_at 1254 (by decide +kernel) rfl, mw_X8_removeAt.1, mw_X8_removeAt.2.1, mw_X8_removeAt.2.2.1, mw_X8_removeAt.2.2.2, by decide, ⟨by decide, by decide, by decide +kernel⟩⟩
theorem lk_X8_210 : LkV RX8 210 Y_X8_lay 2 := ⟨tb_at 1255 (by decide +kernel) rfl, mw_X8_lay.1, mw_X8_lay.2.1, mw_X8_lay.2.2.1, mw_X8_lay.2.2.2, by decide, ⟨by decide, by decide, by decide +kernel⟩⟩
theorem lk_X8_213 : LkV RX8 213 Y_X8_laySplit 0 := ⟨tb_at 1256 (by decide +kernel) rfl, mw_X8_laySplit.1, mw_X8_laySplit.2.1, mw_X8_laySplit.2.2.1, mw_X8_laySplit.2.2.2, by decide, ⟨by decide, by decide, by decide +kernel⟩⟩
theorem lk_X8_216 : LkV RX8 216 Y_X8_findsFault 0 := ⟨tb_at 1213 (by decide +kernel) rfl, mw_X8_findsFault.1, mw_X8_findsFault.2.1, mw_X8_findsFault.2.2.1, mw_X8_findsFault.2.2.2, by decide, ⟨by decide, by decide, by decide +kernel⟩⟩
theorem lk_X8_219 : LkV RX8 219 Y_X8_does 0 := ⟨tb_at 1248 (by decide +kernel) rfl, mw_X8_does.1, mw_X8_does.2.1, mw_X8_does.2.2.1, mw_X8_does.2.2.2, by decide, ⟨by decide, by decide, by decide +kernel⟩⟩
theorem lk_X8_226 : LkV RX8 226 Y_X8_freeElement 0 := ⟨tb_at 1263 (by decide +kernel) rfl, mw_X8_freeElement.1, mw_X8_freeElement.2.1, mw_X8_freeElement.2.2.1, mw_X8_freeElement.2.2.2, by decide, ⟨by decide, by decide, by decide +kernel⟩⟩
theorem lk_X8_229 : LkV RX8 229 Y_X8_unlikeBlocks 0 := ⟨tb_at 1264 (by decide +kernel) rfl, mw_X8_unlikeBlocks.1, mw_X8_unlikeBlocks.2.1, mw_X8_unlikeBlocks.2.2.1, mw_X8_unlikeBlocks.2.2.2, by decide, ⟨by decide, by decide, by decide +kernel⟩⟩
theorem lk_X8_232 : LkV RX8 232 Y_X8_cross 0 := ⟨tb_at 1265 (by decide +kernel) rfl, mw_X8_cross.1, mw_X8_cross.2.1, mw_X8_cross.2.2.1, mw_X8_cross.2.2.2, by decide, ⟨by decide, by decide, by decide +kernel⟩⟩
theorem lk_X8_236 : LkS RX8 236 Y_Jxe99ae_doubleToLongBits_ccdee 1 := ⟨tb_at 1266 (by decide +kernel) rfl, mw_Jxe99ae_doubleToLongBits_ccdee.1, mw_Jxe99ae_doubleToLongBits_ccdee.2.1, mw_Jxe99ae_doubleToLongBits_ccdee.2.2, by decide, ⟨by decide, by decide, by decide +kernel⟩⟩
theorem lk_Jxe99ae_122 : LkS RJxe99ae 122 Y_Jxe99ae_isNaN_b9ae7 1 := ⟨tb_at 1269 (by decide +kernel) rfl, mw_Jxe99ae_isNaN_b9ae7.1, mw_Jxe99ae_isNaN_b9ae7.2.1, mw_Jxe99ae_isNaN_b9ae7.2.2, by decide, ⟨by decide, by decide, by decide +kernel⟩⟩
theorem lk_J0_335 : LkV RJ0 335 Y_J0_coder_7d493 0 := ⟨tb_at 403 (by decide +kernel) rfl, mw_J0_coder_7d493.1, mw_J0_coder_7d493.2.1, mw_J0_coder_7d493.2.2.1, mw_J0_coder_7d493.2.2.2, by decide, ⟨by decide, by decide, by decide +kernel⟩⟩
theorem lk_J0_492 : LkV RJ0 492 Y_J0_isLatin1_aae02 0 := ⟨tb_at 413 (by decide +kernel) rfl, mw_J0_isLatin1_aae02.1, mw_J0_isLatin1_aae02.2.1, mw_J0_isLatin1_aae02.2.2.1, mw_J0_isLatin1_aae02.2.2.2, by decide, ⟨by decide, by decide, by decide +kernel⟩⟩
theorem lk_J0_495 : LkS RJ0 495 Y_J1_charAt_3b067 2 := ⟨tb_at 417 (by decide +kernel) rfl, mw_J1_charAt_3b067.1, mw_J1_charAt_3b067.2.1, mw_J1_charAt_3b067.2.2, by decide, ⟨by decide, by decide, by decide +kernel⟩⟩
theorem lk_J0_498 : LkS RJ0 498 Y_J2_charAt_3b067 2 := ⟨tb_at 428 (by decide +kernel) rfl, mw_J2_charAt_3b067.1, mw_J2_charAt_3b067.2.1, mw_J2_charAt_3b067.2.2, by decide, ⟨by decide, by decide, by decide +kernel⟩⟩
theorem lk_J0_1059 : LkS RJ0 1059 Y_J3_checkIndex_8e157 3 := ⟨tb_at 425 (by decide +kernel) rfl, mw_J3_checkIndex_8e157.1, mw_J3_checkIndex_8e157.2.1, mw_J3_checkIndex_8e157.2.2, by decide, ⟨by decide, by decide, by decide +kernel⟩⟩
theorem lk_J1_9 : LkS RJ1 9 Y_J0_checkIndex_df160 2 := ⟨tb_at 420 (by decide +kernel) rfl, mw_J0_checkIndex_df160.1, mw_J0_checkIndex_df160.2.1, mw_J0_checkIndex_df160.2.2, by decide, ⟨by decide, by decide, by decide +kernel⟩⟩
theorem lk_J2_48 : LkS RJ2 48 Y_J2_length_9d52b 1 := ⟨tb_at 434 (by decide +kernel) rfl, mw_J2_length_9d52b.1, mw_J2_length_9d52b.2.1, mw_J2_length_9d52b.2.2, by decide, ⟨by decide, by decide, by decide +kernel⟩⟩
theorem lk_J2_67 : LkS RJ2 67 Y_J2_checkIndex_2214a 2 := ⟨tb_at 431 (by decide +kernel) rfl, mw_J2_checkIndex_2214a.1, mw_J2_checkIndex_2214a.2.1, mw_J2_checkIndex_2214a.2.2, by decide, ⟨by decide, by decide, by decide +kernel⟩⟩
theorem lk_J2_71 : LkS RJ2 71 Y_J2_getChar_3b067 2 := ⟨tb_at 438 (by decide +kernel) rfl, mw_J2_getChar_3b067.1, mw_J2_getChar_3b067.2.1, mw_J2_getChar_3b067.2.2, by decide, ⟨by decide, by decide, by decide +kernel⟩⟩
theorem lk_J2_414 : LkS RJ2 414 Y_J0_checkIndex_df160 2 := ⟨tb_at 437 (by decide +kernel) rfl, mw_J0_checkIndex_df160.1, mw_J0_checkIndex_df160.2.1, mw_J0_checkIndex_df160.2.2, by decide, ⟨by decide, by decide, by decide +kernel⟩⟩
