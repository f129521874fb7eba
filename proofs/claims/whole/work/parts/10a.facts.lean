abbrev mX11_init : pv_M := (yX11_init, cX11_init, 1, none)
abbrev mX2_init : pv_M := (yX2_init, cX2_init, 1, none)
abbrev mX4_init : pv_M := (yX4_init, cX4_init, 1, none)
abbrev mX10_init : pv_M := (yX10_init, cX10_init, 1, none)
abbrev mX7_init : pv_M := (yX7_init, cX7_init, 1, none)
abbrev mJ7_fill_53178 : pv_M := (yJ7_fill_53178, cJ7_fill_53178, 4, none)
abbrev mX1_init : pv_M := (yX1_init, cX1_init, 1, none)
abbrev mX9_init : pv_M := (yX9_init, cX9_init, 1, none)
abbrev mX5_init : pv_M := (yX5_init, cX5_init, 3, none)
abbrev mX11_street : pv_M := (yX11_street, cX11_street, 4, some .int)
abbrev mX11_within : pv_M := (yX11_within, cX11_within, 3, some .boolean)
abbrev mX8_init : pv_M := (yX8_init, cX8_init, 4, none)
abbrev mX11_height : pv_M := (yX11_height, cX11_height, 8, some .int)
abbrev mX11_findStreet : pv_M := (yX11_findStreet, cX11_findStreet, 2, some (.object "PavingTrust$Street"))
abbrev mX8_has : pv_M := (yX8_has, cX8_has, 3, some .boolean)
abbrev mX8_placeOf : pv_M := (yX8_placeOf, cX8_placeOf, 3, some .int)
abbrev mX11_read : pv_M := (yX11_read, cX11_read, 5, some .int)
abbrev mX11_drain : pv_M := (yX11_drain, cX11_drain, 8, some .int)
abbrev mX11_water : pv_M := (yX11_water, cX11_water, 7, some .int)
abbrev mX8_endOfWater : pv_M := (yX8_endOfWater, cX8_endOfWater, 5, some .int)
abbrev mX8_nextOfWater : pv_M := (yX8_nextOfWater, cX8_nextOfWater, 5, some .int)
abbrev mX8_rowOf : pv_M := (yX8_rowOf, cX8_rowOf, 2, some .int)
abbrev mX8_columnOf : pv_M := (yX8_columnOf, cX8_columnOf, 2, some .int)
abbrev mX8_lowerOf : pv_M := (yX8_lowerOf, cX8_lowerOf, 5, some .int)
abbrev mX11_standing : pv_M := (yX11_standing, cX11_standing, 3, some .int)
abbrev mX2_countStanding : pv_M := (yX2_countStanding, cX2_countStanding, 4, some .int)
abbrev mX2_findEnds : pv_M := (yX2_findEnds, cX2_findEnds, 4, none)
abbrev mX11_most : pv_M := (yX11_most, cX11_most, 3, some .int)
abbrev mX2_countMost : pv_M := (yX2_countMost, cX2_countMost, 4, some .int)
abbrev mJ9_max_7cf53 : pv_M := (yJ9_max_7cf53, cJ9_max_7cf53, 2, some .int)
abbrev mX11_level : pv_M := (yX11_level, cX11_level, 6, some .int)
abbrev mX4_levelRow : pv_M := (yX4_levelRow, cX4_levelRow, 7, some .int)
abbrev mX4_weighColumn : pv_M := (yX4_weighColumn, cX4_weighColumn, 7, none)
abbrev mJ9_abs_0f7a4 : pv_M := (yJ9_abs_0f7a4, cJ9_abs_0f7a4, 1, some .int)
abbrev mX4_lowestBehind : pv_M := (yX4_lowestBehind, cX4_lowestBehind, 3, some .int)
abbrev mX4_highestBehind : pv_M := (yX4_highestBehind, cX4_highestBehind, 3, some .int)
abbrev mX4_bestHeight : pv_M := (yX4_bestHeight, cX4_bestHeight, 9, some .int)
abbrev mJ9_min_7cf53 : pv_M := (yJ9_min_7cf53, cJ9_min_7cf53, 2, some .int)
abbrev mX4_keepHeights : pv_M := (yX4_keepHeights, cX4_keepHeights, 5, none)
abbrev mX11_levelled : pv_M := (yX11_levelled, cX11_levelled, 2, some .int)
abbrev mX4_newHeight : pv_M := (yX4_newHeight, cX4_newHeight, 3, some .int)
abbrev mX11_move : pv_M := (yX11_move, cX11_move, 1, some .int)
abbrev mX4_carryOut : pv_M := (yX4_carryOut, cX4_carryOut, 3, some .int)
abbrev mX4_isRowAsBefore : pv_M := (yX4_isRowAsBefore, cX4_isRowAsBefore, 3, some .boolean)
abbrev mX11_stones : pv_M := (yX11_stones, cX11_stones, 3, some .int)
abbrev mX10_bring : pv_M := (yX10_bring, cX10_bring, 3, some .int)
abbrev mX11_course : pv_M := (yX11_course, cX11_course, 2, some .int)
abbrev mX10_tellCourse : pv_M := (yX10_tellCourse, cX10_tellCourse, 4, some .int)
abbrev mX10_chooseCourse : pv_M := (yX10_chooseCourse, cX10_chooseCourse, 5, some .int)
abbrev mX10_countFor : pv_M := (yX10_countFor, cX10_countFor, 7, some .int)
abbrev mX11_of : pv_M := (yX11_of, cX11_of, 2, some .int)
abbrev mX10_toldOf : pv_M := (yX10_toldOf, cX10_toldOf, 2, some .int)
abbrev mX11_lay : pv_M := (yX11_lay, cX11_lay, 2, some .int)
abbrev mX10_layCourse : pv_M := (yX10_layCourse, cX10_layCourse, 4, some .int)
abbrev mX11_year : pv_M := (yX11_year, cX11_year, 1, some .int)
abbrev mX11_wheels : pv_M := (yX11_wheels, cX11_wheels, 5, some .int)
abbrev mX11_pave : pv_M := (yX11_pave, cX11_pave, 4, some .int)
abbrev mX8_wearAt : pv_M := (yX8_wearAt, cX8_wearAt, 7, some .int)
abbrev mX8_meanWheels : pv_M := (yX8_meanWheels, cX8_meanWheels, 5, some .int)
abbrev mX11_wear : pv_M := (yX11_wear, cX11_wear, 4, some .int)
abbrev mX11_cost : pv_M := (yX11_cost, cX11_cost, 6, some .int)
abbrev mX11_plan : pv_M := (yX11_plan, cX11_plan, 8, some .int)
abbrev mX11_isPlanSet : pv_M := (yX11_isPlanSet, cX11_isPlanSet, 4, some .boolean)
abbrev mJ6_bitCount_0f7a4 : pv_M := (yJ6_bitCount_0f7a4, cJ6_bitCount_0f7a4, 1, some .int)
abbrev mX7_begin : pv_M := (yX7_begin, cX7_begin, 5, none)
abbrev mX7_join : pv_M := (yX7_join, cX7_join, 5, none)
abbrev mX8_costIn : pv_M := (yX8_costIn, cX8_costIn, 2, some .int)
abbrev mX7_findBest : pv_M := (yX7_findBest, cX7_findBest, 3, some .int)
abbrev mX7_tryFrom : pv_M := (yX7_tryFrom, cX7_tryFrom, 6, none)
abbrev mX7_keepIfBetter : pv_M := (yX7_keepIfBetter, cX7_keepIfBetter, 3, none)
abbrev mX11_planned : pv_M := (yX11_planned, cX11_planned, 2, some .int)
abbrev mX7_yearOf : pv_M := (yX7_yearOf, cX7_yearOf, 2, some .int)
abbrev mX11_house : pv_M := (yX11_house, cX11_house, 4, some .int)
abbrev mX11_isFrontage : pv_M := (yX11_isFrontage, cX11_isFrontage, 2, some .boolean)
abbrev mX3_init : pv_M := (yX3_init, cX3_init, 4, none)
abbrev mX11_days : pv_M := (yX11_days, cX11_days, 2, some .int)
abbrev mX11_feed : pv_M := (yX11_feed, cX11_feed, 3, some .int)
abbrev mX1_writeTape : pv_M := (yX1_writeTape, cX1_writeTape, 4, some .int)
abbrev mX11_act : pv_M := (yX11_act, cX11_act, 3, some .int)
abbrev mX11_isKind : pv_M := (yX11_isKind, cX11_isKind, 1, some .boolean)
abbrev mX11_isDay : pv_M := (yX11_isDay, cX11_isDay, 1, some .boolean)
abbrev mX1_pass : pv_M := (yX1_pass, cX1_pass, 5, some .int)
abbrev mX9_readText : pv_M := (yX9_readText, cX9_readText, 7, some .int)
abbrev mX9_readClause : pv_M := (yX9_readClause, cX9_readClause, 4, some .int)
abbrev mX9_readExpression : pv_M := (yX9_readExpression, cX9_readExpression, 6, some .int)
abbrev mX9_readSum : pv_M := (yX9_readSum, cX9_readSum, 6, some .int)
abbrev mX9_readProduct : pv_M := (yX9_readProduct, cX9_readProduct, 5, some .int)
abbrev mX9_readOperand : pv_M := (yX9_readOperand, cX9_readOperand, 4, some .int)
abbrev mX9_peek : pv_M := (yX9_peek, cX9_peek, 1, some .int)
abbrev mX9_isDigit : pv_M := (yX9_isDigit, cX9_isDigit, 1, some .boolean)
abbrev mX9_readNumber : pv_M := (yX9_readNumber, cX9_readNumber, 3, some .int)
abbrev mX9_markFault : pv_M := (yX9_markFault, cX9_markFault, 1, none)
abbrev mX9_readParenthesis : pv_M := (yX9_readParenthesis, cX9_readParenthesis, 3, some .int)
abbrev mJ0_indexOf_0f7a4 : pv_M := (yJ0_indexOf_0f7a4, cJ0_indexOf_0f7a4, 2, some .int)
abbrev mJ0_indexOf_7cf53 : pv_M := (yJ0_indexOf_7cf53, cJ0_indexOf_7cf53, 3, some .int)
abbrev mJ0_isLatin1_aae02 : pv_M := (yJ0_isLatin1_aae02, cJ0_isLatin1_aae02, 1, some .boolean)
abbrev mJ0_length_8abf5 : pv_M := (yJ0_length_8abf5, cJ0_length_8abf5, 1, some .int)
abbrev mJ0_coder_7d493 : pv_M := (yJ0_coder_7d493, cJ0_coder_7d493, 1, some .byte)
abbrev mJ1_indexOf_4cfef : pv_M := (yJ1_indexOf_4cfef, cJ1_indexOf_4cfef, 4, some .int)
abbrev mJ1_canEncode_9a6ad : pv_M := (yJ1_canEncode_9a6ad, cJ1_canEncode_9a6ad, 1, some .boolean)
abbrev mJ1_indexOfChar_4cfef : pv_M := (yJ1_indexOfChar_4cfef, cJ1_indexOfChar_4cfef, 6, some .int)
abbrev mJ2_indexOf_4cfef : pv_M := (yJ2_indexOf_4cfef, cJ2_indexOf_4cfef, 4, some .int)
abbrev mJ2_indexOfChar_4cfef : pv_M := (yJ2_indexOfChar_4cfef, cJ2_indexOfChar_4cfef, 4, some .int)
abbrev mJ2_checkBoundsBeginEnd_d044e : pv_M := (yJ2_checkBoundsBeginEnd_d044e, cJ2_checkBoundsBeginEnd_d044e, 3, none)
abbrev mJ2_length_9d52b : pv_M := (yJ2_length_9d52b, cJ2_length_9d52b, 1, some .int)
abbrev mJ0_checkBoundsBeginEnd_23922 : pv_M := (yJ0_checkBoundsBeginEnd_23922, cJ0_checkBoundsBeginEnd_23922, 3, none)
abbrev mJ3_checkFromToIndex_8c36e : pv_M := (yJ3_checkFromToIndex_8c36e, cJ3_checkFromToIndex_8c36e, 4, some .int)
abbrev mJ2_indexOfCharUnsafe_4cfef : pv_M := (yJ2_indexOfCharUnsafe_4cfef, cJ2_indexOfCharUnsafe_4cfef, 5, some .int)
abbrev mJ2_getChar_3b067 : pv_M := (yJ2_getChar_3b067, cJ2_getChar_3b067, 2, some .char)
abbrev mJ2_indexOfSupplementary_4cfef : pv_M := (yJ2_indexOfSupplementary_4cfef, cJ2_indexOfSupplementary_4cfef, 7, some .int)
abbrev mJ11_isValidCodePoint_9a6ad : pv_M := (yJ11_isValidCodePoint_9a6ad, cJ11_isValidCodePoint_9a6ad, 2, some .boolean)
abbrev mJ11_highSurrogate_5068e : pv_M := (yJ11_highSurrogate_5068e, cJ11_highSurrogate_5068e, 1, some .char)
abbrev mJ11_lowSurrogate_5068e : pv_M := (yJ11_lowSurrogate_5068e, cJ11_lowSurrogate_5068e, 1, some .char)
abbrev mX9_multiply : pv_M := (yX9_multiply, cX9_multiply, 3, some .int)
abbrev mJ7_copyOf_9075b : pv_M := (yJ7_copyOf_9075b, cJ7_copyOf_9075b, 3, some (.array .byte))
abbrev mX0_init : pv_M := (yX0_init, cX0_init, 5, none)
abbrev mX11_inForce : pv_M := (yX11_inForce, cX11_inForce, 5, some .int)
abbrev mX1_numberInForce : pv_M := (yX1_numberInForce, cX1_numberInForce, 6, some .int)
abbrev mX11_rate : pv_M := (yX11_rate, cX11_rate, 7, some .int)
abbrev mX11_findHouse : pv_M := (yX11_findHouse, cX11_findHouse, 2, some (.object "PavingTrust$House"))
abbrev mX1_findInForce : pv_M := (yX1_findInForce, cX1_findInForce, 5, some (.object "PavingTrust$Act"))
abbrev mX1_givePart : pv_M := (yX1_givePart, cX1_givePart, 6, some .int)
abbrev mX3_isCorner : pv_M := (yX3_isCorner, cX3_isCorner, 1, some .boolean)
abbrev mX1_keepWithin : pv_M := (yX1_keepWithin, cX1_keepWithin, 1, some .int)
abbrev mX11_rates : pv_M := (yX11_rates, cX11_rates, 7, some .int)
abbrev mX3_hasPartIn : pv_M := (yX3_hasPartIn, cX3_hasPartIn, 2, some .boolean)
abbrev mX11_clause : pv_M := (yX11_clause, cX11_clause, 6, some .int)
abbrev mX11_open : pv_M := (yX11_open, cX11_open, 5, some .int)
abbrev mX11_isSquare : pv_M := (yX11_isSquare, cX11_isSquare, 4, some .boolean)
abbrev mX11_openNowAt : pv_M := (yX11_openNowAt, cX11_openNowAt, 5, some .int)
abbrev mX6_isAt : pv_M := (yX6_isAt, cX6_isAt, 3, some .boolean)
abbrev mX6_isOpen : pv_M := (yX6_isOpen, cX6_isOpen, 1, some .boolean)
abbrev mX6_init : pv_M := (yX6_init, cX6_init, 6, none)
abbrev mX11_back : pv_M := (yX11_back, cX11_back, 3, some .int)
abbrev mX11_findOpening : pv_M := (yX11_findOpening, cX11_findOpening, 2, some (.object "PavingTrust$Opening"))
abbrev mX11_penalty : pv_M := (yX11_penalty, cX11_penalty, 6, some .int)
abbrev mX11_countOpen : pv_M := (yX11_countOpen, cX11_countOpen, 5, some .int)
abbrev mX1_givePenalty : pv_M := (yX1_givePenalty, cX1_givePenalty, 7, some .int)
abbrev mX6_daysOpenOn : pv_M := (yX6_daysOpenOn, cX6_daysOpenOn, 3, some .int)
abbrev mX11_sink : pv_M := (yX11_sink, cX11_sink, 5, some .int)
abbrev mX11_lastPutBackAt : pv_M := (yX11_lastPutBackAt, cX11_lastPutBackAt, 7, some .int)
abbrev mX11_opening : pv_M := (yX11_opening, cX11_opening, 4, some .int)
abbrev mX11_draw : pv_M := (yX11_draw, cX11_draw, 4, some .int)
abbrev mX5_drawLots : pv_M := (yX5_drawLots, cX5_drawLots, 7, some .int)
abbrev mX11_drawn : pv_M := (yX11_drawn, cX11_drawn, 2, some .int)
abbrev mX5_lotAt : pv_M := (yX5_lotAt, cX5_lotAt, 2, some .int)
abbrev mX11_bad : pv_M := (yX11_bad, cX11_bad, 5, some .int)
abbrev mX5_mostBad : pv_M := (yX5_mostBad, cX5_mostBad, 6, some .int)
abbrev mX5_waysWithFew : pv_M := (yX5_waysWithFew, cX5_waysWithFew, 8, some .long)
abbrev mX11_count : pv_M := (yX11_count, cX11_count, 2, some .int)
abbrev mX11_countAllOpen : pv_M := (yX11_countAllOpen, cX11_countAllOpen, 3, some .int)
abbrev mX10_countAll : pv_M := (yX10_countAll, cX10_countAll, 3, some .int)
abbrev mX12_init : pv_M := (yX12_init, cX12_init, 1, none)
abbrev mX12_street : pv_M := (yX12_street, cX12_street, 5, some .int)
abbrev mX12_in : pv_M := (yX12_in, cX12_in, 3, some .boolean)
abbrev mX12_height : pv_M := (yX12_height, cX12_height, 6, some .int)
abbrev mX12_isSquare : pv_M := (yX12_isSquare, cX12_isSquare, 4, some .boolean)
abbrev mX12_isStreet : pv_M := (yX12_isStreet, cX12_isStreet, 2, some .boolean)
abbrev mX12_place : pv_M := (yX12_place, cX12_place, 3, some .int)
abbrev mX12_read : pv_M := (yX12_read, cX12_read, 4, some .int)
abbrev mX12_drain : pv_M := (yX12_drain, cX12_drain, 6, some .int)
abbrev mX12_water : pv_M := (yX12_water, cX12_water, 5, some .int)
abbrev mX12_comesTo : pv_M := (yX12_comesTo, cX12_comesTo, 6, some .int)
abbrev mX12_goesOn : pv_M := (yX12_goesOn, cX12_goesOn, 6, some .int)
abbrev mX12_isDrain : pv_M := (yX12_isDrain, cX12_isDrain, 3, some .boolean)
abbrev mX12_standing : pv_M := (yX12_standing, cX12_standing, 5, some .int)
abbrev mX12_most : pv_M := (yX12_most, cX12_most, 6, some .int)
abbrev mX12_level : pv_M := (yX12_level, cX12_level, 12, some .int)
abbrev mX12_falls : pv_M := (yX12_falls, cX12_falls, 6, some .boolean)
abbrev mX12_size : pv_M := (yX12_size, cX12_size, 1, some .int)
abbrev mX12_levelled : pv_M := (yX12_levelled, cX12_levelled, 2, some .int)
abbrev mX12_move : pv_M := (yX12_move, cX12_move, 2, some .int)
abbrev mX12_stones : pv_M := (yX12_stones, cX12_stones, 3, some .int)
abbrev mX12_course : pv_M := (yX12_course, cX12_course, 4, some .int)
abbrev mX12_find : pv_M := (yX12_find, cX12_find, 7, some .int)
abbrev mX12_of : pv_M := (yX12_of, cX12_of, 2, some .int)
abbrev mX12_lay : pv_M := (yX12_lay, cX12_lay, 4, some .int)
abbrev mX12_year : pv_M := (yX12_year, cX12_year, 1, some .int)
abbrev mX12_wheels : pv_M := (yX12_wheels, cX12_wheels, 4, some .int)
abbrev mX12_pave : pv_M := (yX12_pave, cX12_pave, 3, some .int)
abbrev mX12_wearOf : pv_M := (yX12_wearOf, cX12_wearOf, 5, some .int)
abbrev mX12_mean : pv_M := (yX12_mean, cX12_mean, 5, some .int)
abbrev mX12_wear : pv_M := (yX12_wear, cX12_wear, 3, some .int)
abbrev mX12_cost : pv_M := (yX12_cost, cX12_cost, 5, some .int)
abbrev mX12_plan : pv_M := (yX12_plan, cX12_plan, 14, some .int)
abbrev mX12_costOf : pv_M := (yX12_costOf, cX12_costOf, 3, some .int)
abbrev mX12_planned : pv_M := (yX12_planned, cX12_planned, 2, some .int)
abbrev mX12_house : pv_M := (yX12_house, cX12_house, 4, some .int)
abbrev mX12_isPlace : pv_M := (yX12_isPlace, cX12_isPlace, 2, some .boolean)
abbrev mX12_days : pv_M := (yX12_days, cX12_days, 2, some .int)
abbrev mX12_feed : pv_M := (yX12_feed, cX12_feed, 4, some .int)
abbrev mX12_act : pv_M := (yX12_act, cX12_act, 4, some .int)
abbrev mX12_parse : pv_M := (yX12_parse, cX12_parse, 9, some .int)
abbrev mX12_operand : pv_M := (yX12_operand, cX12_operand, 6, some .boolean)
abbrev mX12_opened : pv_M := (yX12_opened, cX12_opened, 3, some .int)
abbrev mX12_isName : pv_M := (yX12_isName, cX12_isName, 2, some .boolean)
abbrev mX12_adds : pv_M := (yX12_adds, cX12_adds, 4, none)
abbrev mX12_isDigit : pv_M := (yX12_isDigit, cX12_isDigit, 1, some .boolean)
abbrev mX12_signOf : pv_M := (yX12_signOf, cX12_signOf, 1, some .int)
abbrev mX12_tight : pv_M := (yX12_tight, cX12_tight, 1, some .int)
abbrev mX12_done : pv_M := (yX12_done, cX12_done, 3, none)
abbrev mX12_inForce : pv_M := (yX12_inForce, cX12_inForce, 4, some .int)
abbrev mX12_isDay : pv_M := (yX12_isDay, cX12_isDay, 1, some .boolean)
abbrev mX12_forceOn : pv_M := (yX12_forceOn, cX12_forceOn, 5, some .int)
abbrev mX12_rate : pv_M := (yX12_rate, cX12_rate, 5, some .int)
abbrev mX12_isHouse : pv_M := (yX12_isHouse, cX12_isHouse, 2, some .boolean)
abbrev mX12_part : pv_M := (yX12_part, cX12_part, 5, some .int)
abbrev mX12_says : pv_M := (yX12_says, cX12_says, 7, some .int)
abbrev mX12_both : pv_M := (yX12_both, cX12_both, 3, some .int)
abbrev mX12_clamp : pv_M := (yX12_clamp, cX12_clamp, 1, some .int)
abbrev mX12_rates : pv_M := (yX12_rates, cX12_rates, 6, some .int)
abbrev mX12_clause : pv_M := (yX12_clause, cX12_clause, 5, some .int)
abbrev mX12_open : pv_M := (yX12_open, cX12_open, 6, some .int)
abbrev mX12_isAt : pv_M := (yX12_isAt, cX12_isAt, 3, some .boolean)
abbrev mX12_openNow : pv_M := (yX12_openNow, cX12_openNow, 4, some .int)
abbrev mX12_back : pv_M := (yX12_back, cX12_back, 2, some .int)
abbrev mX12_isOpening : pv_M := (yX12_isOpening, cX12_isOpening, 2, some .boolean)
abbrev mX12_penalty : pv_M := (yX12_penalty, cX12_penalty, 9, some .int)
abbrev mX12_sink : pv_M := (yX12_sink, cX12_sink, 5, some .int)
abbrev mX12_opening : pv_M := (yX12_opening, cX12_opening, 3, some .int)
abbrev mX12_draw : pv_M := (yX12_draw, cX12_draw, 8, some .int)
abbrev mX12_drawn : pv_M := (yX12_drawn, cX12_drawn, 2, some .int)
abbrev mX12_bad : pv_M := (yX12_bad, cX12_bad, 9, some .int)
abbrev mX12_choose : pv_M := (yX12_choose, cX12_choose, 3, some .long)
abbrev mX12_count : pv_M := (yX12_count, cX12_count, 4, some .int)
theorem ini_X11 : Cond.initialized RX11 ∈ pv_gt := pv_gt_in (List.mem_of_getElem? (i := 57) (by decide +kernel)) rfl
theorem ini_X0 : Cond.initialized RX0 ∈ pv_gt := pv_gt_in (List.mem_of_getElem? (i := 77) (by decide +kernel)) rfl
theorem ini_X1 : Cond.initialized RX1 ∈ pv_gt := pv_gt_in (List.mem_of_getElem? (i := 63) (by decide +kernel)) rfl
theorem ini_X2 : Cond.initialized RX2 ∈ pv_gt := pv_gt_in (List.mem_of_getElem? (i := 58) (by decide +kernel)) rfl
theorem ini_X3 : Cond.initialized RX3 ∈ pv_gt := pv_gt_in (List.mem_of_getElem? (i := 71) (by decide +kernel)) rfl
theorem ini_X4 : Cond.initialized RX4 ∈ pv_gt := pv_gt_in (List.mem_of_getElem? (i := 59) (by decide +kernel)) rfl
theorem ini_X5 : Cond.initialized RX5 ∈ pv_gt := pv_gt_in (List.mem_of_getElem? (i := 65) (by decide +kernel)) rfl
theorem ini_X6 : Cond.initialized RX6 ∈ pv_gt := pv_gt_in (List.mem_of_getElem? (i := 78) (by decide +kernel)) rfl
theorem ini_X7 : Cond.initialized RX7 ∈ pv_gt := pv_gt_in (List.mem_of_getElem? (i := 61) (by decide +kernel)) rfl
theorem ini_X8 : Cond.initialized RX8 ∈ pv_gt := pv_gt_in (List.mem_of_getElem? (i := 67) (by decide +kernel)) rfl
theorem ini_X9 : Cond.initialized RX9 ∈ pv_gt := pv_gt_in (List.mem_of_getElem? (i := 64) (by decide +kernel)) rfl
theorem ini_X10 : Cond.initialized RX10 ∈ pv_gt := pv_gt_in (List.mem_of_getElem? (i := 60) (by decide +kernel)) rfl
theorem ini_L : Cond.initialized RL ∈ pv_gt := pv_gt_in (List.mem_of_getElem? (i := 56) (by decide +kernel)) rfl
theorem ini_X12 : Cond.initialized RX12 ∈ pv_gt := pv_gt_in (List.mem_of_getElem? (i := 66) (by decide +kernel)) rfl
theorem ini_J11 : Cond.initialized RJ11 ∈ pv_gt := pv_gt_in (List.mem_of_getElem? (i := 76) (by decide +kernel)) rfl
theorem ini_J6 : Cond.initialized RJ6 ∈ pv_gt := pv_gt_in (List.mem_of_getElem? (i := 69) (by decide +kernel)) rfl
theorem ini_J9 : Cond.initialized RJ9 ∈ pv_gt := pv_gt_in (List.mem_of_getElem? (i := 68) (by decide +kernel)) rfl
theorem ini_J0 : Cond.initialized RJ0 ∈ pv_gt := pv_gt_in (List.mem_of_getElem? (i := 72) (by decide +kernel)) rfl
theorem ini_J1 : Cond.initialized RJ1 ∈ pv_gt := pv_gt_in (List.mem_of_getElem? (i := 73) (by decide +kernel)) rfl
theorem ini_J2 : Cond.initialized RJ2 ∈ pv_gt := pv_gt_in (List.mem_of_getElem? (i := 74) (by decide +kernel)) rfl
theorem ini_J7 : Cond.initialized RJ7 ∈ pv_gt := pv_gt_in (List.mem_of_getElem? (i := 62) (by decide +kernel)) rfl
theorem ini_J3 : Cond.initialized RJ3 ∈ pv_gt := pv_gt_in (List.mem_of_getElem? (i := 75) (by decide +kernel)) rfl
set_option maxRecDepth 1000000 in
theorem moX11_init : pv_mokI mX11_init 0 := ⟨⟨⟨by decide +kernel, by decide +kernel⟩, pv_gt_in (List.mem_of_getElem? (i := 83) rfl) rfl, ini_X11, by decide +kernel, by decide⟩, rfl, rfl, pv_gt_in (List.mem_of_getElem? (i := 82) (by decide +kernel)) rfl⟩
set_option maxRecDepth 1000000 in
theorem moX2_init : pv_mokI mX2_init 0 := ⟨⟨⟨by decide +kernel, by decide +kernel⟩, pv_gt_in (List.mem_of_getElem? (i := 93) rfl) rfl, ini_X2, by decide +kernel, by decide⟩, rfl, rfl, pv_gt_in (List.mem_of_getElem? (i := 92) (by decide +kernel)) rfl⟩
set_option maxRecDepth 1000000 in
theorem moX4_init : pv_mokI mX4_init 0 := ⟨⟨⟨by decide +kernel, by decide +kernel⟩, pv_gt_in (List.mem_of_getElem? (i := 107) rfl) rfl, ini_X4, by decide +kernel, by decide⟩, rfl, rfl, pv_gt_in (List.mem_of_getElem? (i := 106) (by decide +kernel)) rfl⟩
set_option maxRecDepth 1000000 in
theorem moX10_init : pv_mokI mX10_init 0 := ⟨⟨⟨by decide +kernel, by decide +kernel⟩, pv_gt_in (List.mem_of_getElem? (i := 141) rfl) rfl, ini_X10, by decide +kernel, by decide⟩, rfl, rfl, pv_gt_in (List.mem_of_getElem? (i := 140) (by decide +kernel)) rfl⟩
set_option maxRecDepth 1000000 in
theorem moX7_init : pv_mokI mX7_init 0 := ⟨⟨⟨by decide +kernel, by decide +kernel⟩, pv_gt_in (List.mem_of_getElem? (i := 163) rfl) rfl, ini_X7, by decide +kernel, by decide⟩, rfl, rfl, pv_gt_in (List.mem_of_getElem? (i := 162) (by decide +kernel)) rfl⟩
set_option maxRecDepth 1000000 in
theorem moJ7_fill_53178 : pv_mokS mJ7_fill_53178 2 := ⟨⟨⟨by decide +kernel, by decide +kernel⟩, pv_gt_in (List.mem_of_getElem? (i := 167) rfl) rfl, ini_J7, by decide +kernel, by decide⟩, pv_gt_in (List.mem_of_getElem? (i := 166) (by decide +kernel)) rfl⟩
set_option maxRecDepth 1000000 in
theorem moX1_init : pv_mokI mX1_init 0 := ⟨⟨⟨by decide +kernel, by decide +kernel⟩, pv_gt_in (List.mem_of_getElem? (i := 208) rfl) rfl, ini_X1, by decide +kernel, by decide⟩, rfl, rfl, pv_gt_in (List.mem_of_getElem? (i := 207) (by decide +kernel)) rfl⟩
set_option maxRecDepth 1000000 in
theorem moX9_init : pv_mokI mX9_init 0 := ⟨⟨⟨by decide +kernel, by decide +kernel⟩, pv_gt_in (List.mem_of_getElem? (i := 216) rfl) rfl, ini_X9, by decide +kernel, by decide⟩, rfl, rfl, pv_gt_in (List.mem_of_getElem? (i := 215) (by decide +kernel)) rfl⟩
set_option maxRecDepth 1000000 in
theorem moX5_init : pv_mokI mX5_init 0 := ⟨⟨⟨by decide +kernel, by decide +kernel⟩, pv_gt_in (List.mem_of_getElem? (i := 270) rfl) rfl, ini_X5, by decide +kernel, by decide⟩, rfl, rfl, pv_gt_in (List.mem_of_getElem? (i := 269) (by decide +kernel)) rfl⟩
set_option maxRecDepth 1000000 in
theorem moX11_street : pv_mokV mX11_street 3 := ⟨⟨⟨by decide +kernel, by decide +kernel⟩, pv_gt_in (List.mem_of_getElem? (i := 332) rfl) rfl, ini_X11, by decide +kernel, by decide⟩, pv_gt_in (List.mem_of_getElem? (i := 330) (by decide +kernel)) rfl, pv_gt_in (List.mem_of_getElem? (i := 331) (by decide +kernel)) rfl⟩
set_option maxRecDepth 1000000 in
theorem moX11_within : pv_mokS mX11_within 3 := ⟨⟨⟨by decide +kernel, by decide +kernel⟩, pv_gt_in (List.mem_of_getElem? (i := 335) rfl) rfl, ini_X11, by decide +kernel, by decide⟩, pv_gt_in (List.mem_of_getElem? (i := 334) (by decide +kernel)) rfl⟩
set_option maxRecDepth 1000000 in
theorem moX8_init : pv_mokI mX8_init 3 := ⟨⟨⟨by decide +kernel, by decide +kernel⟩, pv_gt_in (List.mem_of_getElem? (i := 339) rfl) rfl, ini_X8, by decide +kernel, by decide⟩, rfl, rfl, pv_gt_in (List.mem_of_getElem? (i := 338) (by decide +kernel)) rfl⟩
set_option maxRecDepth 1000000 in
theorem moX11_height : pv_mokV mX11_height 4 := ⟨⟨⟨by decide +kernel, by decide +kernel⟩, pv_gt_in (List.mem_of_getElem? (i := 384) rfl) rfl, ini_X11, by decide +kernel, by decide⟩, pv_gt_in (List.mem_of_getElem? (i := 382) (by decide +kernel)) rfl, pv_gt_in (List.mem_of_getElem? (i := 383) (by decide +kernel)) rfl⟩
set_option maxRecDepth 1000000 in
theorem moX11_findStreet : pv_mokV mX11_findStreet 1 := ⟨⟨⟨by decide +kernel, by decide +kernel⟩, pv_gt_in (List.mem_of_getElem? (i := 388) rfl) rfl, ini_X11, by decide +kernel, by decide⟩, pv_gt_in (List.mem_of_getElem? (i := 387) (by decide +kernel)) rfl, pv_gt_in (List.mem_of_getElem? (i := 0) (by decide +kernel)) rfl⟩
set_option maxRecDepth 1000000 in
theorem moX8_has : pv_mokV mX8_has 2 := ⟨⟨⟨by decide +kernel, by decide +kernel⟩, pv_gt_in (List.mem_of_getElem? (i := 392) rfl) rfl, ini_X8, by decide +kernel, by decide⟩, pv_gt_in (List.mem_of_getElem? (i := 390) (by decide +kernel)) rfl, pv_gt_in (List.mem_of_getElem? (i := 391) (by decide +kernel)) rfl⟩
set_option maxRecDepth 1000000 in
theorem moX8_placeOf : pv_mokV mX8_placeOf 2 := ⟨⟨⟨by decide +kernel, by decide +kernel⟩, pv_gt_in (List.mem_of_getElem? (i := 396) rfl) rfl, ini_X8, by decide +kernel, by decide⟩, pv_gt_in (List.mem_of_getElem? (i := 394) (by decide +kernel)) rfl, pv_gt_in (List.mem_of_getElem? (i := 395) (by decide +kernel)) rfl⟩
set_option maxRecDepth 1000000 in
theorem moX11_read : pv_mokV mX11_read 3 := ⟨⟨⟨by decide +kernel, by decide +kernel⟩, pv_gt_in (List.mem_of_getElem? (i := 400) rfl) rfl, ini_X11, by decide +kernel, by decide⟩, pv_gt_in (List.mem_of_getElem? (i := 398) (by decide +kernel)) rfl, pv_gt_in (List.mem_of_getElem? (i := 399) (by decide +kernel)) rfl⟩
set_option maxRecDepth 1000000 in
theorem moX11_drain : pv_mokV mX11_drain 4 := ⟨⟨⟨by decide +kernel, by decide +kernel⟩, pv_gt_in (List.mem_of_getElem? (i := 404) rfl) rfl, ini_X11, by decide +kernel, by decide⟩, pv_gt_in (List.mem_of_getElem? (i := 402) (by decide +kernel)) rfl, pv_gt_in (List.mem_of_getElem? (i := 403) (by decide +kernel)) rfl⟩
set_option maxRecDepth 1000000 in
theorem moX11_water : pv_mokV mX11_water 3 := ⟨⟨⟨by decide +kernel, by decide +kernel⟩, pv_gt_in (List.mem_of_getElem? (i := 408) rfl) rfl, ini_X11, by decide +kernel, by decide⟩, pv_gt_in (List.mem_of_getElem? (i := 406) (by decide +kernel)) rfl, pv_gt_in (List.mem_of_getElem? (i := 407) (by decide +kernel)) rfl⟩
set_option maxRecDepth 1000000 in
theorem moX8_endOfWater : pv_mokV mX8_endOfWater 1 := ⟨⟨⟨by decide +kernel, by decide +kernel⟩, pv_gt_in (List.mem_of_getElem? (i := 412) rfl) rfl, ini_X8, by decide +kernel, by decide⟩, pv_gt_in (List.mem_of_getElem? (i := 410) (by decide +kernel)) rfl, pv_gt_in (List.mem_of_getElem? (i := 411) (by decide +kernel)) rfl⟩
set_option maxRecDepth 1000000 in
theorem moX8_nextOfWater : pv_mokV mX8_nextOfWater 1 := ⟨⟨⟨by decide +kernel, by decide +kernel⟩, pv_gt_in (List.mem_of_getElem? (i := 416) rfl) rfl, ini_X8, by decide +kernel, by decide⟩, pv_gt_in (List.mem_of_getElem? (i := 414) (by decide +kernel)) rfl, pv_gt_in (List.mem_of_getElem? (i := 415) (by decide +kernel)) rfl⟩
set_option maxRecDepth 1000000 in
theorem moX8_rowOf : pv_mokV mX8_rowOf 1 := ⟨⟨⟨by decide +kernel, by decide +kernel⟩, pv_gt_in (List.mem_of_getElem? (i := 420) rfl) rfl, ini_X8, by decide +kernel, by decide⟩, pv_gt_in (List.mem_of_getElem? (i := 418) (by decide +kernel)) rfl, pv_gt_in (List.mem_of_getElem? (i := 419) (by decide +kernel)) rfl⟩
set_option maxRecDepth 1000000 in
theorem moX8_columnOf : pv_mokV mX8_columnOf 1 := ⟨⟨⟨by decide +kernel, by decide +kernel⟩, pv_gt_in (List.mem_of_getElem? (i := 424) rfl) rfl, ini_X8, by decide +kernel, by decide⟩, pv_gt_in (List.mem_of_getElem? (i := 422) (by decide +kernel)) rfl, pv_gt_in (List.mem_of_getElem? (i := 423) (by decide +kernel)) rfl⟩
set_option maxRecDepth 1000000 in
theorem moX8_lowerOf : pv_mokV mX8_lowerOf 3 := ⟨⟨⟨by decide +kernel, by decide +kernel⟩, pv_gt_in (List.mem_of_getElem? (i := 428) rfl) rfl, ini_X8, by decide +kernel, by decide⟩, pv_gt_in (List.mem_of_getElem? (i := 427) (by decide +kernel)) rfl, pv_gt_in (List.mem_of_getElem? (i := 1) (by decide +kernel)) rfl⟩
set_option maxRecDepth 1000000 in
theorem moX11_standing : pv_mokV mX11_standing 1 := ⟨⟨⟨by decide +kernel, by decide +kernel⟩, pv_gt_in (List.mem_of_getElem? (i := 436) rfl) rfl, ini_X11, by decide +kernel, by decide⟩, pv_gt_in (List.mem_of_getElem? (i := 434) (by decide +kernel)) rfl, pv_gt_in (List.mem_of_getElem? (i := 435) (by decide +kernel)) rfl⟩
set_option maxRecDepth 1000000 in
theorem moX2_countStanding : pv_mokV mX2_countStanding 1 := ⟨⟨⟨by decide +kernel, by decide +kernel⟩, pv_gt_in (List.mem_of_getElem? (i := 440) rfl) rfl, ini_X2, by decide +kernel, by decide⟩, pv_gt_in (List.mem_of_getElem? (i := 438) (by decide +kernel)) rfl, pv_gt_in (List.mem_of_getElem? (i := 439) (by decide +kernel)) rfl⟩
set_option maxRecDepth 1000000 in
theorem moX2_findEnds : pv_mokV mX2_findEnds 1 := ⟨⟨⟨by decide +kernel, by decide +kernel⟩, pv_gt_in (List.mem_of_getElem? (i := 444) rfl) rfl, ini_X2, by decide +kernel, by decide⟩, pv_gt_in (List.mem_of_getElem? (i := 443) (by decide +kernel)) rfl, pv_gt_in (List.mem_of_getElem? (i := 2) (by decide +kernel)) rfl⟩
set_option maxRecDepth 1000000 in
theorem moX11_most : pv_mokV mX11_most 1 := ⟨⟨⟨by decide +kernel, by decide +kernel⟩, pv_gt_in (List.mem_of_getElem? (i := 449) rfl) rfl, ini_X11, by decide +kernel, by decide⟩, pv_gt_in (List.mem_of_getElem? (i := 447) (by decide +kernel)) rfl, pv_gt_in (List.mem_of_getElem? (i := 448) (by decide +kernel)) rfl⟩
set_option maxRecDepth 1000000 in
theorem moX2_countMost : pv_mokV mX2_countMost 1 := ⟨⟨⟨by decide +kernel, by decide +kernel⟩, pv_gt_in (List.mem_of_getElem? (i := 453) rfl) rfl, ini_X2, by decide +kernel, by decide⟩, pv_gt_in (List.mem_of_getElem? (i := 451) (by decide +kernel)) rfl, pv_gt_in (List.mem_of_getElem? (i := 452) (by decide +kernel)) rfl⟩
set_option maxRecDepth 1000000 in
theorem moJ9_max_7cf53 : pv_mokS mJ9_max_7cf53 2 := ⟨⟨⟨by decide +kernel, by decide +kernel⟩, pv_gt_in (List.mem_of_getElem? (i := 457) rfl) rfl, ini_J9, by decide +kernel, by decide⟩, pv_gt_in (List.mem_of_getElem? (i := 456) (by decide +kernel)) rfl⟩
set_option maxRecDepth 1000000 in
theorem moX11_level : pv_mokV mX11_level 4 := ⟨⟨⟨by decide +kernel, by decide +kernel⟩, pv_gt_in (List.mem_of_getElem? (i := 461) rfl) rfl, ini_X11, by decide +kernel, by decide⟩, pv_gt_in (List.mem_of_getElem? (i := 459) (by decide +kernel)) rfl, pv_gt_in (List.mem_of_getElem? (i := 460) (by decide +kernel)) rfl⟩
set_option maxRecDepth 1000000 in
theorem moX4_levelRow : pv_mokV mX4_levelRow 5 := ⟨⟨⟨by decide +kernel, by decide +kernel⟩, pv_gt_in (List.mem_of_getElem? (i := 465) rfl) rfl, ini_X4, by decide +kernel, by decide⟩, pv_gt_in (List.mem_of_getElem? (i := 463) (by decide +kernel)) rfl, pv_gt_in (List.mem_of_getElem? (i := 464) (by decide +kernel)) rfl⟩
set_option maxRecDepth 1000000 in
theorem moX4_weighColumn : pv_mokV mX4_weighColumn 3 := ⟨⟨⟨by decide +kernel, by decide +kernel⟩, pv_gt_in (List.mem_of_getElem? (i := 470) rfl) rfl, ini_X4, by decide +kernel, by decide⟩, pv_gt_in (List.mem_of_getElem? (i := 469) (by decide +kernel)) rfl, pv_gt_in (List.mem_of_getElem? (i := 3) (by decide +kernel)) rfl⟩
set_option maxRecDepth 1000000 in
theorem moJ9_abs_0f7a4 : pv_mokS mJ9_abs_0f7a4 1 := ⟨⟨⟨by decide +kernel, by decide +kernel⟩, pv_gt_in (List.mem_of_getElem? (i := 473) rfl) rfl, ini_J9, by decide +kernel, by decide⟩, pv_gt_in (List.mem_of_getElem? (i := 472) (by decide +kernel)) rfl⟩
set_option maxRecDepth 1000000 in
theorem moX4_lowestBehind : pv_mokV mX4_lowestBehind 2 := ⟨⟨⟨by decide +kernel, by decide +kernel⟩, pv_gt_in (List.mem_of_getElem? (i := 477) rfl) rfl, ini_X4, by decide +kernel, by decide⟩, pv_gt_in (List.mem_of_getElem? (i := 476) (by decide +kernel)) rfl, pv_gt_in (List.mem_of_getElem? (i := 4) (by decide +kernel)) rfl⟩
set_option maxRecDepth 1000000 in
theorem moX4_highestBehind : pv_mokV mX4_highestBehind 2 := ⟨⟨⟨by decide +kernel, by decide +kernel⟩, pv_gt_in (List.mem_of_getElem? (i := 481) rfl) rfl, ini_X4, by decide +kernel, by decide⟩, pv_gt_in (List.mem_of_getElem? (i := 480) (by decide +kernel)) rfl, pv_gt_in (List.mem_of_getElem? (i := 5) (by decide +kernel)) rfl⟩
set_option maxRecDepth 1000000 in
theorem moX4_bestHeight : pv_mokV mX4_bestHeight 3 := ⟨⟨⟨by decide +kernel, by decide +kernel⟩, pv_gt_in (List.mem_of_getElem? (i := 485) rfl) rfl, ini_X4, by decide +kernel, by decide⟩, pv_gt_in (List.mem_of_getElem? (i := 484) (by decide +kernel)) rfl, pv_gt_in (List.mem_of_getElem? (i := 6) (by decide +kernel)) rfl⟩
set_option maxRecDepth 1000000 in
theorem moJ9_min_7cf53 : pv_mokS mJ9_min_7cf53 2 := ⟨⟨⟨by decide +kernel, by decide +kernel⟩, pv_gt_in (List.mem_of_getElem? (i := 489) rfl) rfl, ini_J9, by decide +kernel, by decide⟩, pv_gt_in (List.mem_of_getElem? (i := 488) (by decide +kernel)) rfl⟩
set_option maxRecDepth 1000000 in
theorem moX4_keepHeights : pv_mokV mX4_keepHeights 2 := ⟨⟨⟨by decide +kernel, by decide +kernel⟩, pv_gt_in (List.mem_of_getElem? (i := 494) rfl) rfl, ini_X4, by decide +kernel, by decide⟩, pv_gt_in (List.mem_of_getElem? (i := 493) (by decide +kernel)) rfl, pv_gt_in (List.mem_of_getElem? (i := 7) (by decide +kernel)) rfl⟩
set_option maxRecDepth 1000000 in
theorem moX11_levelled : pv_mokV mX11_levelled 1 := ⟨⟨⟨by decide +kernel, by decide +kernel⟩, pv_gt_in (List.mem_of_getElem? (i := 498) rfl) rfl, ini_X11, by decide +kernel, by decide⟩, pv_gt_in (List.mem_of_getElem? (i := 496) (by decide +kernel)) rfl, pv_gt_in (List.mem_of_getElem? (i := 497) (by decide +kernel)) rfl⟩
set_option maxRecDepth 1000000 in
theorem moX4_newHeight : pv_mokV mX4_newHeight 1 := ⟨⟨⟨by decide +kernel, by decide +kernel⟩, pv_gt_in (List.mem_of_getElem? (i := 502) rfl) rfl, ini_X4, by decide +kernel, by decide⟩, pv_gt_in (List.mem_of_getElem? (i := 500) (by decide +kernel)) rfl, pv_gt_in (List.mem_of_getElem? (i := 501) (by decide +kernel)) rfl⟩
set_option maxRecDepth 1000000 in
theorem moX11_move : pv_mokV mX11_move 0 := ⟨⟨⟨by decide +kernel, by decide +kernel⟩, pv_gt_in (List.mem_of_getElem? (i := 506) rfl) rfl, ini_X11, by decide +kernel, by decide⟩, pv_gt_in (List.mem_of_getElem? (i := 504) (by decide +kernel)) rfl, pv_gt_in (List.mem_of_getElem? (i := 505) (by decide +kernel)) rfl⟩
set_option maxRecDepth 1000000 in
theorem moX4_carryOut : pv_mokV mX4_carryOut 0 := ⟨⟨⟨by decide +kernel, by decide +kernel⟩, pv_gt_in (List.mem_of_getElem? (i := 510) rfl) rfl, ini_X4, by decide +kernel, by decide⟩, pv_gt_in (List.mem_of_getElem? (i := 508) (by decide +kernel)) rfl, pv_gt_in (List.mem_of_getElem? (i := 509) (by decide +kernel)) rfl⟩
set_option maxRecDepth 1000000 in
theorem moX4_isRowAsBefore : pv_mokV mX4_isRowAsBefore 1 := ⟨⟨⟨by decide +kernel, by decide +kernel⟩, pv_gt_in (List.mem_of_getElem? (i := 514) rfl) rfl, ini_X4, by decide +kernel, by decide⟩, pv_gt_in (List.mem_of_getElem? (i := 513) (by decide +kernel)) rfl, pv_gt_in (List.mem_of_getElem? (i := 8) (by decide +kernel)) rfl⟩
set_option maxRecDepth 1000000 in
theorem moX11_stones : pv_mokV mX11_stones 2 := ⟨⟨⟨by decide +kernel, by decide +kernel⟩, pv_gt_in (List.mem_of_getElem? (i := 518) rfl) rfl, ini_X11, by decide +kernel, by decide⟩, pv_gt_in (List.mem_of_getElem? (i := 516) (by decide +kernel)) rfl, pv_gt_in (List.mem_of_getElem? (i := 517) (by decide +kernel)) rfl⟩
set_option maxRecDepth 1000000 in
theorem moX10_bring : pv_mokV mX10_bring 2 := ⟨⟨⟨by decide +kernel, by decide +kernel⟩, pv_gt_in (List.mem_of_getElem? (i := 522) rfl) rfl, ini_X10, by decide +kernel, by decide⟩, pv_gt_in (List.mem_of_getElem? (i := 520) (by decide +kernel)) rfl, pv_gt_in (List.mem_of_getElem? (i := 521) (by decide +kernel)) rfl⟩
set_option maxRecDepth 1000000 in
theorem moX11_course : pv_mokV mX11_course 1 := ⟨⟨⟨by decide +kernel, by decide +kernel⟩, pv_gt_in (List.mem_of_getElem? (i := 526) rfl) rfl, ini_X11, by decide +kernel, by decide⟩, pv_gt_in (List.mem_of_getElem? (i := 524) (by decide +kernel)) rfl, pv_gt_in (List.mem_of_getElem? (i := 525) (by decide +kernel)) rfl⟩
set_option maxRecDepth 1000000 in
theorem moX10_tellCourse : pv_mokV mX10_tellCourse 1 := ⟨⟨⟨by decide +kernel, by decide +kernel⟩, pv_gt_in (List.mem_of_getElem? (i := 530) rfl) rfl, ini_X10, by decide +kernel, by decide⟩, pv_gt_in (List.mem_of_getElem? (i := 528) (by decide +kernel)) rfl, pv_gt_in (List.mem_of_getElem? (i := 529) (by decide +kernel)) rfl⟩
set_option maxRecDepth 1000000 in
theorem moX10_chooseCourse : pv_mokV mX10_chooseCourse 1 := ⟨⟨⟨by decide +kernel, by decide +kernel⟩, pv_gt_in (List.mem_of_getElem? (i := 534) rfl) rfl, ini_X10, by decide +kernel, by decide⟩, pv_gt_in (List.mem_of_getElem? (i := 533) (by decide +kernel)) rfl, pv_gt_in (List.mem_of_getElem? (i := 9) (by decide +kernel)) rfl⟩
set_option maxRecDepth 1000000 in
theorem moX10_countFor : pv_mokV mX10_countFor 2 := ⟨⟨⟨by decide +kernel, by decide +kernel⟩, pv_gt_in (List.mem_of_getElem? (i := 539) rfl) rfl, ini_X10, by decide +kernel, by decide⟩, pv_gt_in (List.mem_of_getElem? (i := 538) (by decide +kernel)) rfl, pv_gt_in (List.mem_of_getElem? (i := 10) (by decide +kernel)) rfl⟩
set_option maxRecDepth 1000000 in
theorem moX11_of : pv_mokV mX11_of 1 := ⟨⟨⟨by decide +kernel, by decide +kernel⟩, pv_gt_in (List.mem_of_getElem? (i := 543) rfl) rfl, ini_X11, by decide +kernel, by decide⟩, pv_gt_in (List.mem_of_getElem? (i := 541) (by decide +kernel)) rfl, pv_gt_in (List.mem_of_getElem? (i := 542) (by decide +kernel)) rfl⟩
set_option maxRecDepth 1000000 in
theorem moX10_toldOf : pv_mokV mX10_toldOf 1 := ⟨⟨⟨by decide +kernel, by decide +kernel⟩, pv_gt_in (List.mem_of_getElem? (i := 547) rfl) rfl, ini_X10, by decide +kernel, by decide⟩, pv_gt_in (List.mem_of_getElem? (i := 545) (by decide +kernel)) rfl, pv_gt_in (List.mem_of_getElem? (i := 546) (by decide +kernel)) rfl⟩
set_option maxRecDepth 1000000 in
theorem moX11_lay : pv_mokV mX11_lay 1 := ⟨⟨⟨by decide +kernel, by decide +kernel⟩, pv_gt_in (List.mem_of_getElem? (i := 551) rfl) rfl, ini_X11, by decide +kernel, by decide⟩, pv_gt_in (List.mem_of_getElem? (i := 549) (by decide +kernel)) rfl, pv_gt_in (List.mem_of_getElem? (i := 550) (by decide +kernel)) rfl⟩
set_option maxRecDepth 1000000 in
theorem moX10_layCourse : pv_mokV mX10_layCourse 1 := ⟨⟨⟨by decide +kernel, by decide +kernel⟩, pv_gt_in (List.mem_of_getElem? (i := 555) rfl) rfl, ini_X10, by decide +kernel, by decide⟩, pv_gt_in (List.mem_of_getElem? (i := 553) (by decide +kernel)) rfl, pv_gt_in (List.mem_of_getElem? (i := 554) (by decide +kernel)) rfl⟩
set_option maxRecDepth 1000000 in
theorem moX11_year : pv_mokV mX11_year 0 := ⟨⟨⟨by decide +kernel, by decide +kernel⟩, pv_gt_in (List.mem_of_getElem? (i := 559) rfl) rfl, ini_X11, by decide +kernel, by decide⟩, pv_gt_in (List.mem_of_getElem? (i := 557) (by decide +kernel)) rfl, pv_gt_in (List.mem_of_getElem? (i := 558) (by decide +kernel)) rfl⟩
set_option maxRecDepth 1000000 in
theorem moX11_wheels : pv_mokV mX11_wheels 3 := ⟨⟨⟨by decide +kernel, by decide +kernel⟩, pv_gt_in (List.mem_of_getElem? (i := 563) rfl) rfl, ini_X11, by decide +kernel, by decide⟩, pv_gt_in (List.mem_of_getElem? (i := 561) (by decide +kernel)) rfl, pv_gt_in (List.mem_of_getElem? (i := 562) (by decide +kernel)) rfl⟩
set_option maxRecDepth 1000000 in
theorem moX11_pave : pv_mokV mX11_pave 1 := ⟨⟨⟨by decide +kernel, by decide +kernel⟩, pv_gt_in (List.mem_of_getElem? (i := 567) rfl) rfl, ini_X11, by decide +kernel, by decide⟩, pv_gt_in (List.mem_of_getElem? (i := 565) (by decide +kernel)) rfl, pv_gt_in (List.mem_of_getElem? (i := 566) (by decide +kernel)) rfl⟩
set_option maxRecDepth 1000000 in
theorem moX8_wearAt : pv_mokV mX8_wearAt 2 := ⟨⟨⟨by decide +kernel, by decide +kernel⟩, pv_gt_in (List.mem_of_getElem? (i := 571) rfl) rfl, ini_X8, by decide +kernel, by decide⟩, pv_gt_in (List.mem_of_getElem? (i := 569) (by decide +kernel)) rfl, pv_gt_in (List.mem_of_getElem? (i := 570) (by decide +kernel)) rfl⟩
set_option maxRecDepth 1000000 in
theorem moX8_meanWheels : pv_mokV mX8_meanWheels 1 := ⟨⟨⟨by decide +kernel, by decide +kernel⟩, pv_gt_in (List.mem_of_getElem? (i := 575) rfl) rfl, ini_X8, by decide +kernel, by decide⟩, pv_gt_in (List.mem_of_getElem? (i := 574) (by decide +kernel)) rfl, pv_gt_in (List.mem_of_getElem? (i := 11) (by decide +kernel)) rfl⟩
set_option maxRecDepth 1000000 in
theorem moX11_wear : pv_mokV mX11_wear 2 := ⟨⟨⟨by decide +kernel, by decide +kernel⟩, pv_gt_in (List.mem_of_getElem? (i := 579) rfl) rfl, ini_X11, by decide +kernel, by decide⟩, pv_gt_in (List.mem_of_getElem? (i := 577) (by decide +kernel)) rfl, pv_gt_in (List.mem_of_getElem? (i := 578) (by decide +kernel)) rfl⟩
set_option maxRecDepth 1000000 in
theorem moX11_cost : pv_mokV mX11_cost 4 := ⟨⟨⟨by decide +kernel, by decide +kernel⟩, pv_gt_in (List.mem_of_getElem? (i := 583) rfl) rfl, ini_X11, by decide +kernel, by decide⟩, pv_gt_in (List.mem_of_getElem? (i := 581) (by decide +kernel)) rfl, pv_gt_in (List.mem_of_getElem? (i := 582) (by decide +kernel)) rfl⟩
set_option maxRecDepth 1000000 in
theorem moX11_plan : pv_mokV mX11_plan 5 := ⟨⟨⟨by decide +kernel, by decide +kernel⟩, pv_gt_in (List.mem_of_getElem? (i := 587) rfl) rfl, ini_X11, by decide +kernel, by decide⟩, pv_gt_in (List.mem_of_getElem? (i := 585) (by decide +kernel)) rfl, pv_gt_in (List.mem_of_getElem? (i := 586) (by decide +kernel)) rfl⟩
set_option maxRecDepth 1000000 in
theorem moX11_isPlanSet : pv_mokV mX11_isPlanSet 1 := ⟨⟨⟨by decide +kernel, by decide +kernel⟩, pv_gt_in (List.mem_of_getElem? (i := 591) rfl) rfl, ini_X11, by decide +kernel, by decide⟩, pv_gt_in (List.mem_of_getElem? (i := 590) (by decide +kernel)) rfl, pv_gt_in (List.mem_of_getElem? (i := 12) (by decide +kernel)) rfl⟩
set_option maxRecDepth 1000000 in
theorem moJ6_bitCount_0f7a4 : pv_mokS mJ6_bitCount_0f7a4 1 := ⟨⟨⟨by decide +kernel, by decide +kernel⟩, pv_gt_in (List.mem_of_getElem? (i := 594) rfl) rfl, ini_J6, by decide +kernel, by decide⟩, pv_gt_in (List.mem_of_getElem? (i := 593) (by decide +kernel)) rfl⟩
set_option maxRecDepth 1000000 in
theorem moX7_begin : pv_mokV mX7_begin 4 := ⟨⟨⟨by decide +kernel, by decide +kernel⟩, pv_gt_in (List.mem_of_getElem? (i := 602) rfl) rfl, ini_X7, by decide +kernel, by decide⟩, pv_gt_in (List.mem_of_getElem? (i := 600) (by decide +kernel)) rfl, pv_gt_in (List.mem_of_getElem? (i := 601) (by decide +kernel)) rfl⟩
set_option maxRecDepth 1000000 in
theorem moX7_join : pv_mokV mX7_join 3 := ⟨⟨⟨by decide +kernel, by decide +kernel⟩, pv_gt_in (List.mem_of_getElem? (i := 606) rfl) rfl, ini_X7, by decide +kernel, by decide⟩, pv_gt_in (List.mem_of_getElem? (i := 604) (by decide +kernel)) rfl, pv_gt_in (List.mem_of_getElem? (i := 605) (by decide +kernel)) rfl⟩
set_option maxRecDepth 1000000 in
theorem moX8_costIn : pv_mokV mX8_costIn 1 := ⟨⟨⟨by decide +kernel, by decide +kernel⟩, pv_gt_in (List.mem_of_getElem? (i := 611) rfl) rfl, ini_X8, by decide +kernel, by decide⟩, pv_gt_in (List.mem_of_getElem? (i := 609) (by decide +kernel)) rfl, pv_gt_in (List.mem_of_getElem? (i := 610) (by decide +kernel)) rfl⟩
set_option maxRecDepth 1000000 in
theorem moX7_findBest : pv_mokV mX7_findBest 1 := ⟨⟨⟨by decide +kernel, by decide +kernel⟩, pv_gt_in (List.mem_of_getElem? (i := 615) rfl) rfl, ini_X7, by decide +kernel, by decide⟩, pv_gt_in (List.mem_of_getElem? (i := 613) (by decide +kernel)) rfl, pv_gt_in (List.mem_of_getElem? (i := 614) (by decide +kernel)) rfl⟩
set_option maxRecDepth 1000000 in
theorem moX7_tryFrom : pv_mokV mX7_tryFrom 3 := ⟨⟨⟨by decide +kernel, by decide +kernel⟩, pv_gt_in (List.mem_of_getElem? (i := 619) rfl) rfl, ini_X7, by decide +kernel, by decide⟩, pv_gt_in (List.mem_of_getElem? (i := 618) (by decide +kernel)) rfl, pv_gt_in (List.mem_of_getElem? (i := 13) (by decide +kernel)) rfl⟩
set_option maxRecDepth 1000000 in
theorem moX7_keepIfBetter : pv_mokV mX7_keepIfBetter 2 := ⟨⟨⟨by decide +kernel, by decide +kernel⟩, pv_gt_in (List.mem_of_getElem? (i := 623) rfl) rfl, ini_X7, by decide +kernel, by decide⟩, pv_gt_in (List.mem_of_getElem? (i := 622) (by decide +kernel)) rfl, pv_gt_in (List.mem_of_getElem? (i := 14) (by decide +kernel)) rfl⟩
set_option maxRecDepth 1000000 in
theorem moX11_planned : pv_mokV mX11_planned 1 := ⟨⟨⟨by decide +kernel, by decide +kernel⟩, pv_gt_in (List.mem_of_getElem? (i := 630) rfl) rfl, ini_X11, by decide +kernel, by decide⟩, pv_gt_in (List.mem_of_getElem? (i := 628) (by decide +kernel)) rfl, pv_gt_in (List.mem_of_getElem? (i := 629) (by decide +kernel)) rfl⟩
set_option maxRecDepth 1000000 in
theorem moX7_yearOf : pv_mokV mX7_yearOf 1 := ⟨⟨⟨by decide +kernel, by decide +kernel⟩, pv_gt_in (List.mem_of_getElem? (i := 634) rfl) rfl, ini_X7, by decide +kernel, by decide⟩, pv_gt_in (List.mem_of_getElem? (i := 632) (by decide +kernel)) rfl, pv_gt_in (List.mem_of_getElem? (i := 633) (by decide +kernel)) rfl⟩
set_option maxRecDepth 1000000 in
theorem moX11_house : pv_mokV mX11_house 3 := ⟨⟨⟨by decide +kernel, by decide +kernel⟩, pv_gt_in (List.mem_of_getElem? (i := 638) rfl) rfl, ini_X11, by decide +kernel, by decide⟩, pv_gt_in (List.mem_of_getElem? (i := 636) (by decide +kernel)) rfl, pv_gt_in (List.mem_of_getElem? (i := 637) (by decide +kernel)) rfl⟩
set_option maxRecDepth 1000000 in
theorem moX11_isFrontage : pv_mokV mX11_isFrontage 1 := ⟨⟨⟨by decide +kernel, by decide +kernel⟩, pv_gt_in (List.mem_of_getElem? (i := 642) rfl) rfl, ini_X11, by decide +kernel, by decide⟩, pv_gt_in (List.mem_of_getElem? (i := 641) (by decide +kernel)) rfl, pv_gt_in (List.mem_of_getElem? (i := 15) (by decide +kernel)) rfl⟩
set_option maxRecDepth 1000000 in
theorem moX3_init : pv_mokI mX3_init 3 := ⟨⟨⟨by decide +kernel, by decide +kernel⟩, pv_gt_in (List.mem_of_getElem? (i := 646) rfl) rfl, ini_X3, by decide +kernel, by decide⟩, rfl, rfl, pv_gt_in (List.mem_of_getElem? (i := 645) (by decide +kernel)) rfl⟩
set_option maxRecDepth 1000000 in
theorem moX11_days : pv_mokV mX11_days 1 := ⟨⟨⟨by decide +kernel, by decide +kernel⟩, pv_gt_in (List.mem_of_getElem? (i := 673) rfl) rfl, ini_X11, by decide +kernel, by decide⟩, pv_gt_in (List.mem_of_getElem? (i := 671) (by decide +kernel)) rfl, pv_gt_in (List.mem_of_getElem? (i := 672) (by decide +kernel)) rfl⟩
set_option maxRecDepth 1000000 in
theorem moX11_feed : pv_mokV mX11_feed 2 := ⟨⟨⟨by decide +kernel, by decide +kernel⟩, pv_gt_in (List.mem_of_getElem? (i := 677) rfl) rfl, ini_X11, by decide +kernel, by decide⟩, pv_gt_in (List.mem_of_getElem? (i := 675) (by decide +kernel)) rfl, pv_gt_in (List.mem_of_getElem? (i := 676) (by decide +kernel)) rfl⟩
set_option maxRecDepth 1000000 in
theorem moX1_writeTape : pv_mokV mX1_writeTape 2 := ⟨⟨⟨by decide +kernel, by decide +kernel⟩, pv_gt_in (List.mem_of_getElem? (i := 681) rfl) rfl, ini_X1, by decide +kernel, by decide⟩, pv_gt_in (List.mem_of_getElem? (i := 679) (by decide +kernel)) rfl, pv_gt_in (List.mem_of_getElem? (i := 680) (by decide +kernel)) rfl⟩
set_option maxRecDepth 1000000 in
theorem moX11_act : pv_mokV mX11_act 2 := ⟨⟨⟨by decide +kernel, by decide +kernel⟩, pv_gt_in (List.mem_of_getElem? (i := 685) rfl) rfl, ini_X11, by decide +kernel, by decide⟩, pv_gt_in (List.mem_of_getElem? (i := 683) (by decide +kernel)) rfl, pv_gt_in (List.mem_of_getElem? (i := 684) (by decide +kernel)) rfl⟩
set_option maxRecDepth 1000000 in
theorem moX11_isKind : pv_mokS mX11_isKind 1 := ⟨⟨⟨by decide +kernel, by decide +kernel⟩, pv_gt_in (List.mem_of_getElem? (i := 688) rfl) rfl, ini_X11, by decide +kernel, by decide⟩, pv_gt_in (List.mem_of_getElem? (i := 687) (by decide +kernel)) rfl⟩
set_option maxRecDepth 1000000 in
theorem moX11_isDay : pv_mokS mX11_isDay 1 := ⟨⟨⟨by decide +kernel, by decide +kernel⟩, pv_gt_in (List.mem_of_getElem? (i := 691) rfl) rfl, ini_X11, by decide +kernel, by decide⟩, pv_gt_in (List.mem_of_getElem? (i := 690) (by decide +kernel)) rfl⟩
set_option maxRecDepth 1000000 in
theorem moX1_pass : pv_mokV mX1_pass 3 := ⟨⟨⟨by decide +kernel, by decide +kernel⟩, pv_gt_in (List.mem_of_getElem? (i := 695) rfl) rfl, ini_X1, by decide +kernel, by decide⟩, pv_gt_in (List.mem_of_getElem? (i := 693) (by decide +kernel)) rfl, pv_gt_in (List.mem_of_getElem? (i := 694) (by decide +kernel)) rfl⟩
set_option maxRecDepth 1000000 in
theorem moX9_readText : pv_mokV mX9_readText 3 := ⟨⟨⟨by decide +kernel, by decide +kernel⟩, pv_gt_in (List.mem_of_getElem? (i := 699) rfl) rfl, ini_X9, by decide +kernel, by decide⟩, pv_gt_in (List.mem_of_getElem? (i := 697) (by decide +kernel)) rfl, pv_gt_in (List.mem_of_getElem? (i := 698) (by decide +kernel)) rfl⟩
set_option maxRecDepth 1000000 in
theorem moX9_readClause : pv_mokV mX9_readClause 1 := ⟨⟨⟨by decide +kernel, by decide +kernel⟩, pv_gt_in (List.mem_of_getElem? (i := 705) rfl) rfl, ini_X9, by decide +kernel, by decide⟩, pv_gt_in (List.mem_of_getElem? (i := 704) (by decide +kernel)) rfl, pv_gt_in (List.mem_of_getElem? (i := 16) (by decide +kernel)) rfl⟩
set_option maxRecDepth 1000000 in
theorem moX9_readExpression : pv_mokV mX9_readExpression 1 := ⟨⟨⟨by decide +kernel, by decide +kernel⟩, pv_gt_in (List.mem_of_getElem? (i := 709) rfl) rfl, ini_X9, by decide +kernel, by decide⟩, pv_gt_in (List.mem_of_getElem? (i := 708) (by decide +kernel)) rfl, pv_gt_in (List.mem_of_getElem? (i := 17) (by decide +kernel)) rfl⟩
set_option maxRecDepth 1000000 in
theorem moX9_readSum : pv_mokV mX9_readSum 1 := ⟨⟨⟨by decide +kernel, by decide +kernel⟩, pv_gt_in (List.mem_of_getElem? (i := 713) rfl) rfl, ini_X9, by decide +kernel, by decide⟩, pv_gt_in (List.mem_of_getElem? (i := 712) (by decide +kernel)) rfl, pv_gt_in (List.mem_of_getElem? (i := 18) (by decide +kernel)) rfl⟩
set_option maxRecDepth 1000000 in
theorem moX9_readProduct : pv_mokV mX9_readProduct 1 := ⟨⟨⟨by decide +kernel, by decide +kernel⟩, pv_gt_in (List.mem_of_getElem? (i := 717) rfl) rfl, ini_X9, by decide +kernel, by decide⟩, pv_gt_in (List.mem_of_getElem? (i := 716) (by decide +kernel)) rfl, pv_gt_in (List.mem_of_getElem? (i := 19) (by decide +kernel)) rfl⟩
set_option maxRecDepth 1000000 in
theorem moX9_readOperand : pv_mokV mX9_readOperand 1 := ⟨⟨⟨by decide +kernel, by decide +kernel⟩, pv_gt_in (List.mem_of_getElem? (i := 721) rfl) rfl, ini_X9, by decide +kernel, by decide⟩, pv_gt_in (List.mem_of_getElem? (i := 720) (by decide +kernel)) rfl, pv_gt_in (List.mem_of_getElem? (i := 20) (by decide +kernel)) rfl⟩
set_option maxRecDepth 1000000 in
theorem moX9_peek : pv_mokV mX9_peek 0 := ⟨⟨⟨by decide +kernel, by decide +kernel⟩, pv_gt_in (List.mem_of_getElem? (i := 725) rfl) rfl, ini_X9, by decide +kernel, by decide⟩, pv_gt_in (List.mem_of_getElem? (i := 724) (by decide +kernel)) rfl, pv_gt_in (List.mem_of_getElem? (i := 21) (by decide +kernel)) rfl⟩
set_option maxRecDepth 1000000 in
theorem moX9_isDigit : pv_mokS mX9_isDigit 1 := ⟨⟨⟨by decide +kernel, by decide +kernel⟩, pv_gt_in (List.mem_of_getElem? (i := 728) rfl) rfl, ini_X9, by decide +kernel, by decide⟩, pv_gt_in (List.mem_of_getElem? (i := 727) (by decide +kernel)) rfl⟩
set_option maxRecDepth 1000000 in
theorem moX9_readNumber : pv_mokV mX9_readNumber 0 := ⟨⟨⟨by decide +kernel, by decide +kernel⟩, pv_gt_in (List.mem_of_getElem? (i := 732) rfl) rfl, ini_X9, by decide +kernel, by decide⟩, pv_gt_in (List.mem_of_getElem? (i := 731) (by decide +kernel)) rfl, pv_gt_in (List.mem_of_getElem? (i := 22) (by decide +kernel)) rfl⟩
set_option maxRecDepth 1000000 in
theorem moX9_markFault : pv_mokV mX9_markFault 0 := ⟨⟨⟨by decide +kernel, by decide +kernel⟩, pv_gt_in (List.mem_of_getElem? (i := 736) rfl) rfl, ini_X9, by decide +kernel, by decide⟩, pv_gt_in (List.mem_of_getElem? (i := 735) (by decide +kernel)) rfl, pv_gt_in (List.mem_of_getElem? (i := 23) (by decide +kernel)) rfl⟩
set_option maxRecDepth 1000000 in
theorem moX9_readParenthesis : pv_mokV mX9_readParenthesis 1 := ⟨⟨⟨by decide +kernel, by decide +kernel⟩, pv_gt_in (List.mem_of_getElem? (i := 740) rfl) rfl, ini_X9, by decide +kernel, by decide⟩, pv_gt_in (List.mem_of_getElem? (i := 739) (by decide +kernel)) rfl, pv_gt_in (List.mem_of_getElem? (i := 24) (by decide +kernel)) rfl⟩
set_option maxRecDepth 1000000 in
theorem moJ0_indexOf_0f7a4 : pv_mokV mJ0_indexOf_0f7a4 1 := ⟨⟨⟨by decide +kernel, by decide +kernel⟩, pv_gt_in (List.mem_of_getElem? (i := 744) rfl) rfl, ini_J0, by decide +kernel, by decide⟩, pv_gt_in (List.mem_of_getElem? (i := 742) (by decide +kernel)) rfl, pv_gt_in (List.mem_of_getElem? (i := 743) (by decide +kernel)) rfl⟩
set_option maxRecDepth 1000000 in
theorem moJ0_indexOf_7cf53 : pv_mokV mJ0_indexOf_7cf53 2 := ⟨⟨⟨by decide +kernel, by decide +kernel⟩, pv_gt_in (List.mem_of_getElem? (i := 748) rfl) rfl, ini_J0, by decide +kernel, by decide⟩, pv_gt_in (List.mem_of_getElem? (i := 746) (by decide +kernel)) rfl, pv_gt_in (List.mem_of_getElem? (i := 747) (by decide +kernel)) rfl⟩
set_option maxRecDepth 1000000 in
theorem moJ0_isLatin1_aae02 : pv_mokV mJ0_isLatin1_aae02 0 := ⟨⟨⟨by decide +kernel, by decide +kernel⟩, pv_gt_in (List.mem_of_getElem? (i := 752) rfl) rfl, ini_J0, by decide +kernel, by decide⟩, pv_gt_in (List.mem_of_getElem? (i := 750) (by decide +kernel)) rfl, pv_gt_in (List.mem_of_getElem? (i := 751) (by decide +kernel)) rfl⟩
set_option maxRecDepth 1000000 in
theorem moJ0_length_8abf5 : pv_mokV mJ0_length_8abf5 0 := ⟨⟨⟨by decide +kernel, by decide +kernel⟩, pv_gt_in (List.mem_of_getElem? (i := 758) rfl) rfl, ini_J0, by decide +kernel, by decide⟩, pv_gt_in (List.mem_of_getElem? (i := 756) (by decide +kernel)) rfl, pv_gt_in (List.mem_of_getElem? (i := 757) (by decide +kernel)) rfl⟩
set_option maxRecDepth 1000000 in
theorem moJ0_coder_7d493 : pv_mokV mJ0_coder_7d493 0 := ⟨⟨⟨by decide +kernel, by decide +kernel⟩, pv_gt_in (List.mem_of_getElem? (i := 762) rfl) rfl, ini_J0, by decide +kernel, by decide⟩, pv_gt_in (List.mem_of_getElem? (i := 760) (by decide +kernel)) rfl, pv_gt_in (List.mem_of_getElem? (i := 761) (by decide +kernel)) rfl⟩
set_option maxRecDepth 1000000 in
theorem moJ1_indexOf_4cfef : pv_mokS mJ1_indexOf_4cfef 4 := ⟨⟨⟨by decide +kernel, by decide +kernel⟩, pv_gt_in (List.mem_of_getElem? (i := 765) rfl) rfl, ini_J1, by decide +kernel, by decide⟩, pv_gt_in (List.mem_of_getElem? (i := 764) (by decide +kernel)) rfl⟩
set_option maxRecDepth 1000000 in
theorem moJ1_canEncode_9a6ad : pv_mokS mJ1_canEncode_9a6ad 1 := ⟨⟨⟨by decide +kernel, by decide +kernel⟩, pv_gt_in (List.mem_of_getElem? (i := 768) rfl) rfl, ini_J1, by decide +kernel, by decide⟩, pv_gt_in (List.mem_of_getElem? (i := 767) (by decide +kernel)) rfl⟩
set_option maxRecDepth 1000000 in
theorem moJ1_indexOfChar_4cfef : pv_mokS mJ1_indexOfChar_4cfef 4 := ⟨⟨⟨by decide +kernel, by decide +kernel⟩, pv_gt_in (List.mem_of_getElem? (i := 773) rfl) rfl, ini_J1, by decide +kernel, by decide⟩, pv_gt_in (List.mem_of_getElem? (i := 772) (by decide +kernel)) rfl⟩
set_option maxRecDepth 1000000 in
theorem moJ2_indexOf_4cfef : pv_mokS mJ2_indexOf_4cfef 4 := ⟨⟨⟨by decide +kernel, by decide +kernel⟩, pv_gt_in (List.mem_of_getElem? (i := 776) rfl) rfl, ini_J2, by decide +kernel, by decide⟩, pv_gt_in (List.mem_of_getElem? (i := 775) (by decide +kernel)) rfl⟩
set_option maxRecDepth 1000000 in
theorem moJ2_indexOfChar_4cfef : pv_mokS mJ2_indexOfChar_4cfef 4 := ⟨⟨⟨by decide +kernel, by decide +kernel⟩, pv_gt_in (List.mem_of_getElem? (i := 782) rfl) rfl, ini_J2, by decide +kernel, by decide⟩, pv_gt_in (List.mem_of_getElem? (i := 781) (by decide +kernel)) rfl⟩
set_option maxRecDepth 1000000 in
theorem moJ2_checkBoundsBeginEnd_d044e : pv_mokS mJ2_checkBoundsBeginEnd_d044e 3 := ⟨⟨⟨by decide +kernel, by decide +kernel⟩, pv_gt_in (List.mem_of_getElem? (i := 785) rfl) rfl, ini_J2, by decide +kernel, by decide⟩, pv_gt_in (List.mem_of_getElem? (i := 784) (by decide +kernel)) rfl⟩
set_option maxRecDepth 1000000 in
theorem moJ2_length_9d52b : pv_mokS mJ2_length_9d52b 1 := ⟨⟨⟨by decide +kernel, by decide +kernel⟩, pv_gt_in (List.mem_of_getElem? (i := 788) rfl) rfl, ini_J2, by decide +kernel, by decide⟩, pv_gt_in (List.mem_of_getElem? (i := 787) (by decide +kernel)) rfl⟩
set_option maxRecDepth 1000000 in
theorem moJ0_checkBoundsBeginEnd_23922 : pv_mokS mJ0_checkBoundsBeginEnd_23922 3 := ⟨⟨⟨by decide +kernel, by decide +kernel⟩, pv_gt_in (List.mem_of_getElem? (i := 791) rfl) rfl, ini_J0, by decide +kernel, by decide⟩, pv_gt_in (List.mem_of_getElem? (i := 790) (by decide +kernel)) rfl⟩
set_option maxRecDepth 1000000 in
theorem moJ3_checkFromToIndex_8c36e : pv_mokS mJ3_checkFromToIndex_8c36e 4 := ⟨⟨⟨by decide +kernel, by decide +kernel⟩, pv_gt_in (List.mem_of_getElem? (i := 796) rfl) rfl, ini_J3, by decide +kernel, by decide⟩, pv_gt_in (List.mem_of_getElem? (i := 795) (by decide +kernel)) rfl⟩
set_option maxRecDepth 1000000 in
theorem moJ2_indexOfCharUnsafe_4cfef : pv_mokS mJ2_indexOfCharUnsafe_4cfef 4 := ⟨⟨⟨by decide +kernel, by decide +kernel⟩, pv_gt_in (List.mem_of_getElem? (i := 799) rfl) rfl, ini_J2, by decide +kernel, by decide⟩, pv_gt_in (List.mem_of_getElem? (i := 798) (by decide +kernel)) rfl⟩
set_option maxRecDepth 1000000 in
theorem moJ2_getChar_3b067 : pv_mokS mJ2_getChar_3b067 2 := ⟨⟨⟨by decide +kernel, by decide +kernel⟩, pv_gt_in (List.mem_of_getElem? (i := 802) rfl) rfl, ini_J2, by decide +kernel, by decide⟩, pv_gt_in (List.mem_of_getElem? (i := 801) (by decide +kernel)) rfl⟩
set_option maxRecDepth 1000000 in
theorem moJ2_indexOfSupplementary_4cfef : pv_mokS mJ2_indexOfSupplementary_4cfef 4 := ⟨⟨⟨by decide +kernel, by decide +kernel⟩, pv_gt_in (List.mem_of_getElem? (i := 811) rfl) rfl, ini_J2, by decide +kernel, by decide⟩, pv_gt_in (List.mem_of_getElem? (i := 810) (by decide +kernel)) rfl⟩
set_option maxRecDepth 1000000 in
theorem moJ11_isValidCodePoint_9a6ad : pv_mokS mJ11_isValidCodePoint_9a6ad 1 := ⟨⟨⟨by decide +kernel, by decide +kernel⟩, pv_gt_in (List.mem_of_getElem? (i := 814) rfl) rfl, ini_J11, by decide +kernel, by decide⟩, pv_gt_in (List.mem_of_getElem? (i := 813) (by decide +kernel)) rfl⟩
set_option maxRecDepth 1000000 in
theorem moJ11_highSurrogate_5068e : pv_mokS mJ11_highSurrogate_5068e 1 := ⟨⟨⟨by decide +kernel, by decide +kernel⟩, pv_gt_in (List.mem_of_getElem? (i := 817) rfl) rfl, ini_J11, by decide +kernel, by decide⟩, pv_gt_in (List.mem_of_getElem? (i := 816) (by decide +kernel)) rfl⟩
set_option maxRecDepth 1000000 in
theorem moJ11_lowSurrogate_5068e : pv_mokS mJ11_lowSurrogate_5068e 1 := ⟨⟨⟨by decide +kernel, by decide +kernel⟩, pv_gt_in (List.mem_of_getElem? (i := 821) rfl) rfl, ini_J11, by decide +kernel, by decide⟩, pv_gt_in (List.mem_of_getElem? (i := 820) (by decide +kernel)) rfl⟩
set_option maxRecDepth 1000000 in
theorem moX9_multiply : pv_mokS mX9_multiply 3 := ⟨⟨⟨by decide +kernel, by decide +kernel⟩, pv_gt_in (List.mem_of_getElem? (i := 825) rfl) rfl, ini_X9, by decide +kernel, by decide⟩, pv_gt_in (List.mem_of_getElem? (i := 824) (by decide +kernel)) rfl⟩
set_option maxRecDepth 1000000 in
theorem moJ7_copyOf_9075b : pv_mokS mJ7_copyOf_9075b 2 := ⟨⟨⟨by decide +kernel, by decide +kernel⟩, pv_gt_in (List.mem_of_getElem? (i := 829) rfl) rfl, ini_J7, by decide +kernel, by decide⟩, pv_gt_in (List.mem_of_getElem? (i := 828) (by decide +kernel)) rfl⟩
set_option maxRecDepth 1000000 in
theorem moX0_init : pv_mokI mX0_init 4 := ⟨⟨⟨by decide +kernel, by decide +kernel⟩, pv_gt_in (List.mem_of_getElem? (i := 841) rfl) rfl, ini_X0, by decide +kernel, by decide⟩, rfl, rfl, pv_gt_in (List.mem_of_getElem? (i := 840) (by decide +kernel)) rfl⟩
set_option maxRecDepth 1000000 in
theorem moX11_inForce : pv_mokV mX11_inForce 3 := ⟨⟨⟨by decide +kernel, by decide +kernel⟩, pv_gt_in (List.mem_of_getElem? (i := 863) rfl) rfl, ini_X11, by decide +kernel, by decide⟩, pv_gt_in (List.mem_of_getElem? (i := 861) (by decide +kernel)) rfl, pv_gt_in (List.mem_of_getElem? (i := 862) (by decide +kernel)) rfl⟩
set_option maxRecDepth 1000000 in
theorem moX1_numberInForce : pv_mokV mX1_numberInForce 3 := ⟨⟨⟨by decide +kernel, by decide +kernel⟩, pv_gt_in (List.mem_of_getElem? (i := 867) rfl) rfl, ini_X1, by decide +kernel, by decide⟩, pv_gt_in (List.mem_of_getElem? (i := 865) (by decide +kernel)) rfl, pv_gt_in (List.mem_of_getElem? (i := 866) (by decide +kernel)) rfl⟩
set_option maxRecDepth 1000000 in
theorem moX11_rate : pv_mokV mX11_rate 3 := ⟨⟨⟨by decide +kernel, by decide +kernel⟩, pv_gt_in (List.mem_of_getElem? (i := 871) rfl) rfl, ini_X11, by decide +kernel, by decide⟩, pv_gt_in (List.mem_of_getElem? (i := 869) (by decide +kernel)) rfl, pv_gt_in (List.mem_of_getElem? (i := 870) (by decide +kernel)) rfl⟩
set_option maxRecDepth 1000000 in
theorem moX11_findHouse : pv_mokV mX11_findHouse 1 := ⟨⟨⟨by decide +kernel, by decide +kernel⟩, pv_gt_in (List.mem_of_getElem? (i := 875) rfl) rfl, ini_X11, by decide +kernel, by decide⟩, pv_gt_in (List.mem_of_getElem? (i := 874) (by decide +kernel)) rfl, pv_gt_in (List.mem_of_getElem? (i := 25) (by decide +kernel)) rfl⟩
set_option maxRecDepth 1000000 in
theorem moX1_findInForce : pv_mokV mX1_findInForce 3 := ⟨⟨⟨by decide +kernel, by decide +kernel⟩, pv_gt_in (List.mem_of_getElem? (i := 880) rfl) rfl, ini_X1, by decide +kernel, by decide⟩, pv_gt_in (List.mem_of_getElem? (i := 878) (by decide +kernel)) rfl, pv_gt_in (List.mem_of_getElem? (i := 879) (by decide +kernel)) rfl⟩
set_option maxRecDepth 1000000 in
theorem moX1_givePart : pv_mokV mX1_givePart 4 := ⟨⟨⟨by decide +kernel, by decide +kernel⟩, pv_gt_in (List.mem_of_getElem? (i := 885) rfl) rfl, ini_X1, by decide +kernel, by decide⟩, pv_gt_in (List.mem_of_getElem? (i := 883) (by decide +kernel)) rfl, pv_gt_in (List.mem_of_getElem? (i := 884) (by decide +kernel)) rfl⟩
set_option maxRecDepth 1000000 in
theorem moX3_isCorner : pv_mokV mX3_isCorner 0 := ⟨⟨⟨by decide +kernel, by decide +kernel⟩, pv_gt_in (List.mem_of_getElem? (i := 889) rfl) rfl, ini_X3, by decide +kernel, by decide⟩, pv_gt_in (List.mem_of_getElem? (i := 887) (by decide +kernel)) rfl, pv_gt_in (List.mem_of_getElem? (i := 888) (by decide +kernel)) rfl⟩
set_option maxRecDepth 1000000 in
theorem moX1_keepWithin : pv_mokS mX1_keepWithin 1 := ⟨⟨⟨by decide +kernel, by decide +kernel⟩, pv_gt_in (List.mem_of_getElem? (i := 892) rfl) rfl, ini_X1, by decide +kernel, by decide⟩, pv_gt_in (List.mem_of_getElem? (i := 891) (by decide +kernel)) rfl⟩
set_option maxRecDepth 1000000 in
theorem moX11_rates : pv_mokV mX11_rates 2 := ⟨⟨⟨by decide +kernel, by decide +kernel⟩, pv_gt_in (List.mem_of_getElem? (i := 900) rfl) rfl, ini_X11, by decide +kernel, by decide⟩, pv_gt_in (List.mem_of_getElem? (i := 898) (by decide +kernel)) rfl, pv_gt_in (List.mem_of_getElem? (i := 899) (by decide +kernel)) rfl⟩
set_option maxRecDepth 1000000 in
theorem moX3_hasPartIn : pv_mokV mX3_hasPartIn 1 := ⟨⟨⟨by decide +kernel, by decide +kernel⟩, pv_gt_in (List.mem_of_getElem? (i := 904) rfl) rfl, ini_X3, by decide +kernel, by decide⟩, pv_gt_in (List.mem_of_getElem? (i := 902) (by decide +kernel)) rfl, pv_gt_in (List.mem_of_getElem? (i := 903) (by decide +kernel)) rfl⟩
set_option maxRecDepth 1000000 in
theorem moX11_clause : pv_mokV mX11_clause 2 := ⟨⟨⟨by decide +kernel, by decide +kernel⟩, pv_gt_in (List.mem_of_getElem? (i := 908) rfl) rfl, ini_X11, by decide +kernel, by decide⟩, pv_gt_in (List.mem_of_getElem? (i := 906) (by decide +kernel)) rfl, pv_gt_in (List.mem_of_getElem? (i := 907) (by decide +kernel)) rfl⟩
set_option maxRecDepth 1000000 in
theorem moX11_open : pv_mokV mX11_open 4 := ⟨⟨⟨by decide +kernel, by decide +kernel⟩, pv_gt_in (List.mem_of_getElem? (i := 912) rfl) rfl, ini_X11, by decide +kernel, by decide⟩, pv_gt_in (List.mem_of_getElem? (i := 910) (by decide +kernel)) rfl, pv_gt_in (List.mem_of_getElem? (i := 911) (by decide +kernel)) rfl⟩
set_option maxRecDepth 1000000 in
theorem moX11_isSquare : pv_mokV mX11_isSquare 2 := ⟨⟨⟨by decide +kernel, by decide +kernel⟩, pv_gt_in (List.mem_of_getElem? (i := 916) rfl) rfl, ini_X11, by decide +kernel, by decide⟩, pv_gt_in (List.mem_of_getElem? (i := 915) (by decide +kernel)) rfl, pv_gt_in (List.mem_of_getElem? (i := 26) (by decide +kernel)) rfl⟩
set_option maxRecDepth 1000000 in
theorem moX11_openNowAt : pv_mokV mX11_openNowAt 2 := ⟨⟨⟨by decide +kernel, by decide +kernel⟩, pv_gt_in (List.mem_of_getElem? (i := 920) rfl) rfl, ini_X11, by decide +kernel, by decide⟩, pv_gt_in (List.mem_of_getElem? (i := 919) (by decide +kernel)) rfl, pv_gt_in (List.mem_of_getElem? (i := 27) (by decide +kernel)) rfl⟩
set_option maxRecDepth 1000000 in
theorem moX6_isAt : pv_mokV mX6_isAt 2 := ⟨⟨⟨by decide +kernel, by decide +kernel⟩, pv_gt_in (List.mem_of_getElem? (i := 924) rfl) rfl, ini_X6, by decide +kernel, by decide⟩, pv_gt_in (List.mem_of_getElem? (i := 922) (by decide +kernel)) rfl, pv_gt_in (List.mem_of_getElem? (i := 923) (by decide +kernel)) rfl⟩
set_option maxRecDepth 1000000 in
theorem moX6_isOpen : pv_mokV mX6_isOpen 0 := ⟨⟨⟨by decide +kernel, by decide +kernel⟩, pv_gt_in (List.mem_of_getElem? (i := 928) rfl) rfl, ini_X6, by decide +kernel, by decide⟩, pv_gt_in (List.mem_of_getElem? (i := 926) (by decide +kernel)) rfl, pv_gt_in (List.mem_of_getElem? (i := 927) (by decide +kernel)) rfl⟩
set_option maxRecDepth 1000000 in
theorem moX6_init : pv_mokI mX6_init 5 := ⟨⟨⟨by decide +kernel, by decide +kernel⟩, pv_gt_in (List.mem_of_getElem? (i := 932) rfl) rfl, ini_X6, by decide +kernel, by decide⟩, rfl, rfl, pv_gt_in (List.mem_of_getElem? (i := 931) (by decide +kernel)) rfl⟩
set_option maxRecDepth 1000000 in
theorem moX11_back : pv_mokV mX11_back 1 := ⟨⟨⟨by decide +kernel, by decide +kernel⟩, pv_gt_in (List.mem_of_getElem? (i := 965) rfl) rfl, ini_X11, by decide +kernel, by decide⟩, pv_gt_in (List.mem_of_getElem? (i := 963) (by decide +kernel)) rfl, pv_gt_in (List.mem_of_getElem? (i := 964) (by decide +kernel)) rfl⟩
set_option maxRecDepth 1000000 in
theorem moX11_findOpening : pv_mokV mX11_findOpening 1 := ⟨⟨⟨by decide +kernel, by decide +kernel⟩, pv_gt_in (List.mem_of_getElem? (i := 969) rfl) rfl, ini_X11, by decide +kernel, by decide⟩, pv_gt_in (List.mem_of_getElem? (i := 968) (by decide +kernel)) rfl, pv_gt_in (List.mem_of_getElem? (i := 28) (by decide +kernel)) rfl⟩
set_option maxRecDepth 1000000 in
theorem moX11_penalty : pv_mokV mX11_penalty 3 := ⟨⟨⟨by decide +kernel, by decide +kernel⟩, pv_gt_in (List.mem_of_getElem? (i := 973) rfl) rfl, ini_X11, by decide +kernel, by decide⟩, pv_gt_in (List.mem_of_getElem? (i := 971) (by decide +kernel)) rfl, pv_gt_in (List.mem_of_getElem? (i := 972) (by decide +kernel)) rfl⟩
set_option maxRecDepth 1000000 in
theorem moX11_countOpen : pv_mokV mX11_countOpen 1 := ⟨⟨⟨by decide +kernel, by decide +kernel⟩, pv_gt_in (List.mem_of_getElem? (i := 977) rfl) rfl, ini_X11, by decide +kernel, by decide⟩, pv_gt_in (List.mem_of_getElem? (i := 976) (by decide +kernel)) rfl, pv_gt_in (List.mem_of_getElem? (i := 29) (by decide +kernel)) rfl⟩
set_option maxRecDepth 1000000 in
theorem moX1_givePenalty : pv_mokV mX1_givePenalty 4 := ⟨⟨⟨by decide +kernel, by decide +kernel⟩, pv_gt_in (List.mem_of_getElem? (i := 981) rfl) rfl, ini_X1, by decide +kernel, by decide⟩, pv_gt_in (List.mem_of_getElem? (i := 979) (by decide +kernel)) rfl, pv_gt_in (List.mem_of_getElem? (i := 980) (by decide +kernel)) rfl⟩
set_option maxRecDepth 1000000 in
theorem moX6_daysOpenOn : pv_mokV mX6_daysOpenOn 1 := ⟨⟨⟨by decide +kernel, by decide +kernel⟩, pv_gt_in (List.mem_of_getElem? (i := 985) rfl) rfl, ini_X6, by decide +kernel, by decide⟩, pv_gt_in (List.mem_of_getElem? (i := 983) (by decide +kernel)) rfl, pv_gt_in (List.mem_of_getElem? (i := 984) (by decide +kernel)) rfl⟩
set_option maxRecDepth 1000000 in
theorem moX11_sink : pv_mokV mX11_sink 2 := ⟨⟨⟨by decide +kernel, by decide +kernel⟩, pv_gt_in (List.mem_of_getElem? (i := 991) rfl) rfl, ini_X11, by decide +kernel, by decide⟩, pv_gt_in (List.mem_of_getElem? (i := 989) (by decide +kernel)) rfl, pv_gt_in (List.mem_of_getElem? (i := 990) (by decide +kernel)) rfl⟩
set_option maxRecDepth 1000000 in
theorem moX11_lastPutBackAt : pv_mokV mX11_lastPutBackAt 2 := ⟨⟨⟨by decide +kernel, by decide +kernel⟩, pv_gt_in (List.mem_of_getElem? (i := 995) rfl) rfl, ini_X11, by decide +kernel, by decide⟩, pv_gt_in (List.mem_of_getElem? (i := 994) (by decide +kernel)) rfl, pv_gt_in (List.mem_of_getElem? (i := 30) (by decide +kernel)) rfl⟩
set_option maxRecDepth 1000000 in
theorem moX11_opening : pv_mokV mX11_opening 2 := ⟨⟨⟨by decide +kernel, by decide +kernel⟩, pv_gt_in (List.mem_of_getElem? (i := 999) rfl) rfl, ini_X11, by decide +kernel, by decide⟩, pv_gt_in (List.mem_of_getElem? (i := 997) (by decide +kernel)) rfl, pv_gt_in (List.mem_of_getElem? (i := 998) (by decide +kernel)) rfl⟩
set_option maxRecDepth 1000000 in
theorem moX11_draw : pv_mokV mX11_draw 3 := ⟨⟨⟨by decide +kernel, by decide +kernel⟩, pv_gt_in (List.mem_of_getElem? (i := 1003) rfl) rfl, ini_X11, by decide +kernel, by decide⟩, pv_gt_in (List.mem_of_getElem? (i := 1001) (by decide +kernel)) rfl, pv_gt_in (List.mem_of_getElem? (i := 1002) (by decide +kernel)) rfl⟩
set_option maxRecDepth 1000000 in
theorem moX5_drawLots : pv_mokV mX5_drawLots 3 := ⟨⟨⟨by decide +kernel, by decide +kernel⟩, pv_gt_in (List.mem_of_getElem? (i := 1007) rfl) rfl, ini_X5, by decide +kernel, by decide⟩, pv_gt_in (List.mem_of_getElem? (i := 1005) (by decide +kernel)) rfl, pv_gt_in (List.mem_of_getElem? (i := 1006) (by decide +kernel)) rfl⟩
set_option maxRecDepth 1000000 in
theorem moX11_drawn : pv_mokV mX11_drawn 1 := ⟨⟨⟨by decide +kernel, by decide +kernel⟩, pv_gt_in (List.mem_of_getElem? (i := 1013) rfl) rfl, ini_X11, by decide +kernel, by decide⟩, pv_gt_in (List.mem_of_getElem? (i := 1011) (by decide +kernel)) rfl, pv_gt_in (List.mem_of_getElem? (i := 1012) (by decide +kernel)) rfl⟩
set_option maxRecDepth 1000000 in
theorem moX5_lotAt : pv_mokV mX5_lotAt 1 := ⟨⟨⟨by decide +kernel, by decide +kernel⟩, pv_gt_in (List.mem_of_getElem? (i := 1017) rfl) rfl, ini_X5, by decide +kernel, by decide⟩, pv_gt_in (List.mem_of_getElem? (i := 1015) (by decide +kernel)) rfl, pv_gt_in (List.mem_of_getElem? (i := 1016) (by decide +kernel)) rfl⟩
set_option maxRecDepth 1000000 in
theorem moX11_bad : pv_mokV mX11_bad 4 := ⟨⟨⟨by decide +kernel, by decide +kernel⟩, pv_gt_in (List.mem_of_getElem? (i := 1021) rfl) rfl, ini_X11, by decide +kernel, by decide⟩, pv_gt_in (List.mem_of_getElem? (i := 1019) (by decide +kernel)) rfl, pv_gt_in (List.mem_of_getElem? (i := 1020) (by decide +kernel)) rfl⟩
set_option maxRecDepth 1000000 in
theorem moX5_mostBad : pv_mokV mX5_mostBad 4 := ⟨⟨⟨by decide +kernel, by decide +kernel⟩, pv_gt_in (List.mem_of_getElem? (i := 1025) rfl) rfl, ini_X5, by decide +kernel, by decide⟩, pv_gt_in (List.mem_of_getElem? (i := 1023) (by decide +kernel)) rfl, pv_gt_in (List.mem_of_getElem? (i := 1024) (by decide +kernel)) rfl⟩
set_option maxRecDepth 1000000 in
theorem moX5_waysWithFew : pv_mokV mX5_waysWithFew 4 := ⟨⟨⟨by decide +kernel, by decide +kernel⟩, pv_gt_in (List.mem_of_getElem? (i := 1030) rfl) rfl, ini_X5, by decide +kernel, by decide⟩, pv_gt_in (List.mem_of_getElem? (i := 1029) (by decide +kernel)) rfl, pv_gt_in (List.mem_of_getElem? (i := 31) (by decide +kernel)) rfl⟩
set_option maxRecDepth 1000000 in
theorem moX11_count : pv_mokV mX11_count 1 := ⟨⟨⟨by decide +kernel, by decide +kernel⟩, pv_gt_in (List.mem_of_getElem? (i := 1034) rfl) rfl, ini_X11, by decide +kernel, by decide⟩, pv_gt_in (List.mem_of_getElem? (i := 1032) (by decide +kernel)) rfl, pv_gt_in (List.mem_of_getElem? (i := 1033) (by decide +kernel)) rfl⟩
set_option maxRecDepth 1000000 in
theorem moX11_countAllOpen : pv_mokV mX11_countAllOpen 0 := ⟨⟨⟨by decide +kernel, by decide +kernel⟩, pv_gt_in (List.mem_of_getElem? (i := 1038) rfl) rfl, ini_X11, by decide +kernel, by decide⟩, pv_gt_in (List.mem_of_getElem? (i := 1037) (by decide +kernel)) rfl, pv_gt_in (List.mem_of_getElem? (i := 32) (by decide +kernel)) rfl⟩
set_option maxRecDepth 1000000 in
theorem moX10_countAll : pv_mokV mX10_countAll 0 := ⟨⟨⟨by decide +kernel, by decide +kernel⟩, pv_gt_in (List.mem_of_getElem? (i := 1042) rfl) rfl, ini_X10, by decide +kernel, by decide⟩, pv_gt_in (List.mem_of_getElem? (i := 1040) (by decide +kernel)) rfl, pv_gt_in (List.mem_of_getElem? (i := 1041) (by decide +kernel)) rfl⟩
set_option maxRecDepth 1000000 in
theorem moX12_init : pv_mokI mX12_init 0 := ⟨⟨⟨by decide +kernel, by decide +kernel⟩, pv_gt_in (List.mem_of_getElem? (i := 1047) rfl) rfl, ini_X12, by decide +kernel, by decide⟩, rfl, rfl, pv_gt_in (List.mem_of_getElem? (i := 1046) (by decide +kernel)) rfl⟩
set_option maxRecDepth 1000000 in
theorem moX12_street : pv_mokV mX12_street 3 := ⟨⟨⟨by decide +kernel, by decide +kernel⟩, pv_gt_in (List.mem_of_getElem? (i := 1251) rfl) rfl, ini_X12, by decide +kernel, by decide⟩, pv_gt_in (List.mem_of_getElem? (i := 1249) (by decide +kernel)) rfl, pv_gt_in (List.mem_of_getElem? (i := 1250) (by decide +kernel)) rfl⟩
set_option maxRecDepth 1000000 in
theorem moX12_in : pv_mokS mX12_in 3 := ⟨⟨⟨by decide +kernel, by decide +kernel⟩, pv_gt_in (List.mem_of_getElem? (i := 1254) rfl) rfl, ini_X12, by decide +kernel, by decide⟩, pv_gt_in (List.mem_of_getElem? (i := 1253) (by decide +kernel)) rfl⟩
set_option maxRecDepth 1000000 in
theorem moX12_height : pv_mokV mX12_height 4 := ⟨⟨⟨by decide +kernel, by decide +kernel⟩, pv_gt_in (List.mem_of_getElem? (i := 1258) rfl) rfl, ini_X12, by decide +kernel, by decide⟩, pv_gt_in (List.mem_of_getElem? (i := 1256) (by decide +kernel)) rfl, pv_gt_in (List.mem_of_getElem? (i := 1257) (by decide +kernel)) rfl⟩
set_option maxRecDepth 1000000 in
theorem moX12_isSquare : pv_mokV mX12_isSquare 3 := ⟨⟨⟨by decide +kernel, by decide +kernel⟩, pv_gt_in (List.mem_of_getElem? (i := 1262) rfl) rfl, ini_X12, by decide +kernel, by decide⟩, pv_gt_in (List.mem_of_getElem? (i := 1261) (by decide +kernel)) rfl, pv_gt_in (List.mem_of_getElem? (i := 33) (by decide +kernel)) rfl⟩
set_option maxRecDepth 1000000 in
theorem moX12_isStreet : pv_mokV mX12_isStreet 1 := ⟨⟨⟨by decide +kernel, by decide +kernel⟩, pv_gt_in (List.mem_of_getElem? (i := 1266) rfl) rfl, ini_X12, by decide +kernel, by decide⟩, pv_gt_in (List.mem_of_getElem? (i := 1265) (by decide +kernel)) rfl, pv_gt_in (List.mem_of_getElem? (i := 34) (by decide +kernel)) rfl⟩
set_option maxRecDepth 1000000 in
theorem moX12_place : pv_mokS mX12_place 3 := ⟨⟨⟨by decide +kernel, by decide +kernel⟩, pv_gt_in (List.mem_of_getElem? (i := 1269) rfl) rfl, ini_X12, by decide +kernel, by decide⟩, pv_gt_in (List.mem_of_getElem? (i := 1268) (by decide +kernel)) rfl⟩
set_option maxRecDepth 1000000 in
theorem moX12_read : pv_mokV mX12_read 3 := ⟨⟨⟨by decide +kernel, by decide +kernel⟩, pv_gt_in (List.mem_of_getElem? (i := 1273) rfl) rfl, ini_X12, by decide +kernel, by decide⟩, pv_gt_in (List.mem_of_getElem? (i := 1271) (by decide +kernel)) rfl, pv_gt_in (List.mem_of_getElem? (i := 1272) (by decide +kernel)) rfl⟩
set_option maxRecDepth 1000000 in
theorem moX12_drain : pv_mokV mX12_drain 4 := ⟨⟨⟨by decide +kernel, by decide +kernel⟩, pv_gt_in (List.mem_of_getElem? (i := 1277) rfl) rfl, ini_X12, by decide +kernel, by decide⟩, pv_gt_in (List.mem_of_getElem? (i := 1275) (by decide +kernel)) rfl, pv_gt_in (List.mem_of_getElem? (i := 1276) (by decide +kernel)) rfl⟩
set_option maxRecDepth 1000000 in
theorem moX12_water : pv_mokV mX12_water 3 := ⟨⟨⟨by decide +kernel, by decide +kernel⟩, pv_gt_in (List.mem_of_getElem? (i := 1281) rfl) rfl, ini_X12, by decide +kernel, by decide⟩, pv_gt_in (List.mem_of_getElem? (i := 1279) (by decide +kernel)) rfl, pv_gt_in (List.mem_of_getElem? (i := 1280) (by decide +kernel)) rfl⟩
set_option maxRecDepth 1000000 in
theorem moX12_comesTo : pv_mokV mX12_comesTo 3 := ⟨⟨⟨by decide +kernel, by decide +kernel⟩, pv_gt_in (List.mem_of_getElem? (i := 1285) rfl) rfl, ini_X12, by decide +kernel, by decide⟩, pv_gt_in (List.mem_of_getElem? (i := 1284) (by decide +kernel)) rfl, pv_gt_in (List.mem_of_getElem? (i := 35) (by decide +kernel)) rfl⟩
set_option maxRecDepth 1000000 in
theorem moX12_goesOn : pv_mokV mX12_goesOn 3 := ⟨⟨⟨by decide +kernel, by decide +kernel⟩, pv_gt_in (List.mem_of_getElem? (i := 1289) rfl) rfl, ini_X12, by decide +kernel, by decide⟩, pv_gt_in (List.mem_of_getElem? (i := 1288) (by decide +kernel)) rfl, pv_gt_in (List.mem_of_getElem? (i := 36) (by decide +kernel)) rfl⟩
set_option maxRecDepth 1000000 in
theorem moX12_isDrain : pv_mokV mX12_isDrain 2 := ⟨⟨⟨by decide +kernel, by decide +kernel⟩, pv_gt_in (List.mem_of_getElem? (i := 1293) rfl) rfl, ini_X12, by decide +kernel, by decide⟩, pv_gt_in (List.mem_of_getElem? (i := 1292) (by decide +kernel)) rfl, pv_gt_in (List.mem_of_getElem? (i := 37) (by decide +kernel)) rfl⟩
set_option maxRecDepth 1000000 in
theorem moX12_standing : pv_mokV mX12_standing 1 := ⟨⟨⟨by decide +kernel, by decide +kernel⟩, pv_gt_in (List.mem_of_getElem? (i := 1297) rfl) rfl, ini_X12, by decide +kernel, by decide⟩, pv_gt_in (List.mem_of_getElem? (i := 1295) (by decide +kernel)) rfl, pv_gt_in (List.mem_of_getElem? (i := 1296) (by decide +kernel)) rfl⟩
set_option maxRecDepth 1000000 in
theorem moX12_most : pv_mokV mX12_most 1 := ⟨⟨⟨by decide +kernel, by decide +kernel⟩, pv_gt_in (List.mem_of_getElem? (i := 1301) rfl) rfl, ini_X12, by decide +kernel, by decide⟩, pv_gt_in (List.mem_of_getElem? (i := 1299) (by decide +kernel)) rfl, pv_gt_in (List.mem_of_getElem? (i := 1300) (by decide +kernel)) rfl⟩
set_option maxRecDepth 1000000 in
theorem moX12_level : pv_mokV mX12_level 4 := ⟨⟨⟨by decide +kernel, by decide +kernel⟩, pv_gt_in (List.mem_of_getElem? (i := 1305) rfl) rfl, ini_X12, by decide +kernel, by decide⟩, pv_gt_in (List.mem_of_getElem? (i := 1303) (by decide +kernel)) rfl, pv_gt_in (List.mem_of_getElem? (i := 1304) (by decide +kernel)) rfl⟩
set_option maxRecDepth 1000000 in
theorem moX12_falls : pv_mokS mX12_falls 5 := ⟨⟨⟨by decide +kernel, by decide +kernel⟩, pv_gt_in (List.mem_of_getElem? (i := 1309) rfl) rfl, ini_X12, by decide +kernel, by decide⟩, pv_gt_in (List.mem_of_getElem? (i := 1308) (by decide +kernel)) rfl⟩
set_option maxRecDepth 1000000 in
theorem moX12_size : pv_mokS mX12_size 1 := ⟨⟨⟨by decide +kernel, by decide +kernel⟩, pv_gt_in (List.mem_of_getElem? (i := 1312) rfl) rfl, ini_X12, by decide +kernel, by decide⟩, pv_gt_in (List.mem_of_getElem? (i := 1311) (by decide +kernel)) rfl⟩
set_option maxRecDepth 1000000 in
theorem moX12_levelled : pv_mokV mX12_levelled 1 := ⟨⟨⟨by decide +kernel, by decide +kernel⟩, pv_gt_in (List.mem_of_getElem? (i := 1316) rfl) rfl, ini_X12, by decide +kernel, by decide⟩, pv_gt_in (List.mem_of_getElem? (i := 1314) (by decide +kernel)) rfl, pv_gt_in (List.mem_of_getElem? (i := 1315) (by decide +kernel)) rfl⟩
set_option maxRecDepth 1000000 in
theorem moX12_move : pv_mokV mX12_move 0 := ⟨⟨⟨by decide +kernel, by decide +kernel⟩, pv_gt_in (List.mem_of_getElem? (i := 1320) rfl) rfl, ini_X12, by decide +kernel, by decide⟩, pv_gt_in (List.mem_of_getElem? (i := 1318) (by decide +kernel)) rfl, pv_gt_in (List.mem_of_getElem? (i := 1319) (by decide +kernel)) rfl⟩
set_option maxRecDepth 1000000 in
theorem moX12_stones : pv_mokV mX12_stones 2 := ⟨⟨⟨by decide +kernel, by decide +kernel⟩, pv_gt_in (List.mem_of_getElem? (i := 1324) rfl) rfl, ini_X12, by decide +kernel, by decide⟩, pv_gt_in (List.mem_of_getElem? (i := 1322) (by decide +kernel)) rfl, pv_gt_in (List.mem_of_getElem? (i := 1323) (by decide +kernel)) rfl⟩
set_option maxRecDepth 1000000 in
theorem moX12_course : pv_mokV mX12_course 1 := ⟨⟨⟨by decide +kernel, by decide +kernel⟩, pv_gt_in (List.mem_of_getElem? (i := 1328) rfl) rfl, ini_X12, by decide +kernel, by decide⟩, pv_gt_in (List.mem_of_getElem? (i := 1326) (by decide +kernel)) rfl, pv_gt_in (List.mem_of_getElem? (i := 1327) (by decide +kernel)) rfl⟩
set_option maxRecDepth 1000000 in
theorem moX12_find : pv_mokV mX12_find 1 := ⟨⟨⟨by decide +kernel, by decide +kernel⟩, pv_gt_in (List.mem_of_getElem? (i := 1332) rfl) rfl, ini_X12, by decide +kernel, by decide⟩, pv_gt_in (List.mem_of_getElem? (i := 1331) (by decide +kernel)) rfl, pv_gt_in (List.mem_of_getElem? (i := 38) (by decide +kernel)) rfl⟩
set_option maxRecDepth 1000000 in
theorem moX12_of : pv_mokV mX12_of 1 := ⟨⟨⟨by decide +kernel, by decide +kernel⟩, pv_gt_in (List.mem_of_getElem? (i := 1336) rfl) rfl, ini_X12, by decide +kernel, by decide⟩, pv_gt_in (List.mem_of_getElem? (i := 1334) (by decide +kernel)) rfl, pv_gt_in (List.mem_of_getElem? (i := 1335) (by decide +kernel)) rfl⟩
set_option maxRecDepth 1000000 in
theorem moX12_lay : pv_mokV mX12_lay 1 := ⟨⟨⟨by decide +kernel, by decide +kernel⟩, pv_gt_in (List.mem_of_getElem? (i := 1340) rfl) rfl, ini_X12, by decide +kernel, by decide⟩, pv_gt_in (List.mem_of_getElem? (i := 1338) (by decide +kernel)) rfl, pv_gt_in (List.mem_of_getElem? (i := 1339) (by decide +kernel)) rfl⟩
set_option maxRecDepth 1000000 in
theorem moX12_year : pv_mokV mX12_year 0 := ⟨⟨⟨by decide +kernel, by decide +kernel⟩, pv_gt_in (List.mem_of_getElem? (i := 1344) rfl) rfl, ini_X12, by decide +kernel, by decide⟩, pv_gt_in (List.mem_of_getElem? (i := 1342) (by decide +kernel)) rfl, pv_gt_in (List.mem_of_getElem? (i := 1343) (by decide +kernel)) rfl⟩
set_option maxRecDepth 1000000 in
theorem moX12_wheels : pv_mokV mX12_wheels 3 := ⟨⟨⟨by decide +kernel, by decide +kernel⟩, pv_gt_in (List.mem_of_getElem? (i := 1348) rfl) rfl, ini_X12, by decide +kernel, by decide⟩, pv_gt_in (List.mem_of_getElem? (i := 1346) (by decide +kernel)) rfl, pv_gt_in (List.mem_of_getElem? (i := 1347) (by decide +kernel)) rfl⟩
set_option maxRecDepth 1000000 in
theorem moX12_pave : pv_mokV mX12_pave 1 := ⟨⟨⟨by decide +kernel, by decide +kernel⟩, pv_gt_in (List.mem_of_getElem? (i := 1352) rfl) rfl, ini_X12, by decide +kernel, by decide⟩, pv_gt_in (List.mem_of_getElem? (i := 1350) (by decide +kernel)) rfl, pv_gt_in (List.mem_of_getElem? (i := 1351) (by decide +kernel)) rfl⟩
set_option maxRecDepth 1000000 in
theorem moX12_wearOf : pv_mokV mX12_wearOf 2 := ⟨⟨⟨by decide +kernel, by decide +kernel⟩, pv_gt_in (List.mem_of_getElem? (i := 1356) rfl) rfl, ini_X12, by decide +kernel, by decide⟩, pv_gt_in (List.mem_of_getElem? (i := 1355) (by decide +kernel)) rfl, pv_gt_in (List.mem_of_getElem? (i := 39) (by decide +kernel)) rfl⟩
set_option maxRecDepth 1000000 in
theorem moX12_mean : pv_mokV mX12_mean 1 := ⟨⟨⟨by decide +kernel, by decide +kernel⟩, pv_gt_in (List.mem_of_getElem? (i := 1360) rfl) rfl, ini_X12, by decide +kernel, by decide⟩, pv_gt_in (List.mem_of_getElem? (i := 1359) (by decide +kernel)) rfl, pv_gt_in (List.mem_of_getElem? (i := 40) (by decide +kernel)) rfl⟩
set_option maxRecDepth 1000000 in
theorem moX12_wear : pv_mokV mX12_wear 2 := ⟨⟨⟨by decide +kernel, by decide +kernel⟩, pv_gt_in (List.mem_of_getElem? (i := 1364) rfl) rfl, ini_X12, by decide +kernel, by decide⟩, pv_gt_in (List.mem_of_getElem? (i := 1362) (by decide +kernel)) rfl, pv_gt_in (List.mem_of_getElem? (i := 1363) (by decide +kernel)) rfl⟩
set_option maxRecDepth 1000000 in
theorem moX12_cost : pv_mokV mX12_cost 4 := ⟨⟨⟨by decide +kernel, by decide +kernel⟩, pv_gt_in (List.mem_of_getElem? (i := 1368) rfl) rfl, ini_X12, by decide +kernel, by decide⟩, pv_gt_in (List.mem_of_getElem? (i := 1366) (by decide +kernel)) rfl, pv_gt_in (List.mem_of_getElem? (i := 1367) (by decide +kernel)) rfl⟩
set_option maxRecDepth 1000000 in
theorem moX12_plan : pv_mokV mX12_plan 5 := ⟨⟨⟨by decide +kernel, by decide +kernel⟩, pv_gt_in (List.mem_of_getElem? (i := 1372) rfl) rfl, ini_X12, by decide +kernel, by decide⟩, pv_gt_in (List.mem_of_getElem? (i := 1370) (by decide +kernel)) rfl, pv_gt_in (List.mem_of_getElem? (i := 1371) (by decide +kernel)) rfl⟩
set_option maxRecDepth 1000000 in
theorem moX12_costOf : pv_mokV mX12_costOf 2 := ⟨⟨⟨by decide +kernel, by decide +kernel⟩, pv_gt_in (List.mem_of_getElem? (i := 1377) rfl) rfl, ini_X12, by decide +kernel, by decide⟩, pv_gt_in (List.mem_of_getElem? (i := 1376) (by decide +kernel)) rfl, pv_gt_in (List.mem_of_getElem? (i := 41) (by decide +kernel)) rfl⟩
set_option maxRecDepth 1000000 in
theorem moX12_planned : pv_mokV mX12_planned 1 := ⟨⟨⟨by decide +kernel, by decide +kernel⟩, pv_gt_in (List.mem_of_getElem? (i := 1381) rfl) rfl, ini_X12, by decide +kernel, by decide⟩, pv_gt_in (List.mem_of_getElem? (i := 1379) (by decide +kernel)) rfl, pv_gt_in (List.mem_of_getElem? (i := 1380) (by decide +kernel)) rfl⟩
set_option maxRecDepth 1000000 in
theorem moX12_house : pv_mokV mX12_house 3 := ⟨⟨⟨by decide +kernel, by decide +kernel⟩, pv_gt_in (List.mem_of_getElem? (i := 1385) rfl) rfl, ini_X12, by decide +kernel, by decide⟩, pv_gt_in (List.mem_of_getElem? (i := 1383) (by decide +kernel)) rfl, pv_gt_in (List.mem_of_getElem? (i := 1384) (by decide +kernel)) rfl⟩
set_option maxRecDepth 1000000 in
theorem moX12_isPlace : pv_mokV mX12_isPlace 1 := ⟨⟨⟨by decide +kernel, by decide +kernel⟩, pv_gt_in (List.mem_of_getElem? (i := 1389) rfl) rfl, ini_X12, by decide +kernel, by decide⟩, pv_gt_in (List.mem_of_getElem? (i := 1388) (by decide +kernel)) rfl, pv_gt_in (List.mem_of_getElem? (i := 42) (by decide +kernel)) rfl⟩
set_option maxRecDepth 1000000 in
theorem moX12_days : pv_mokV mX12_days 1 := ⟨⟨⟨by decide +kernel, by decide +kernel⟩, pv_gt_in (List.mem_of_getElem? (i := 1393) rfl) rfl, ini_X12, by decide +kernel, by decide⟩, pv_gt_in (List.mem_of_getElem? (i := 1391) (by decide +kernel)) rfl, pv_gt_in (List.mem_of_getElem? (i := 1392) (by decide +kernel)) rfl⟩
set_option maxRecDepth 1000000 in
theorem moX12_feed : pv_mokV mX12_feed 2 := ⟨⟨⟨by decide +kernel, by decide +kernel⟩, pv_gt_in (List.mem_of_getElem? (i := 1397) rfl) rfl, ini_X12, by decide +kernel, by decide⟩, pv_gt_in (List.mem_of_getElem? (i := 1395) (by decide +kernel)) rfl, pv_gt_in (List.mem_of_getElem? (i := 1396) (by decide +kernel)) rfl⟩
set_option maxRecDepth 1000000 in
theorem moX12_act : pv_mokV mX12_act 2 := ⟨⟨⟨by decide +kernel, by decide +kernel⟩, pv_gt_in (List.mem_of_getElem? (i := 1401) rfl) rfl, ini_X12, by decide +kernel, by decide⟩, pv_gt_in (List.mem_of_getElem? (i := 1399) (by decide +kernel)) rfl, pv_gt_in (List.mem_of_getElem? (i := 1400) (by decide +kernel)) rfl⟩
set_option maxRecDepth 1000000 in
theorem moX12_parse : pv_mokV mX12_parse 2 := ⟨⟨⟨by decide +kernel, by decide +kernel⟩, pv_gt_in (List.mem_of_getElem? (i := 1405) rfl) rfl, ini_X12, by decide +kernel, by decide⟩, pv_gt_in (List.mem_of_getElem? (i := 1404) (by decide +kernel)) rfl, pv_gt_in (List.mem_of_getElem? (i := 43) (by decide +kernel)) rfl⟩
set_option maxRecDepth 1000000 in
theorem moX12_operand : pv_mokV mX12_operand 2 := ⟨⟨⟨by decide +kernel, by decide +kernel⟩, pv_gt_in (List.mem_of_getElem? (i := 1409) rfl) rfl, ini_X12, by decide +kernel, by decide⟩, pv_gt_in (List.mem_of_getElem? (i := 1408) (by decide +kernel)) rfl, pv_gt_in (List.mem_of_getElem? (i := 44) (by decide +kernel)) rfl⟩
set_option maxRecDepth 1000000 in
theorem moX12_opened : pv_mokV mX12_opened 0 := ⟨⟨⟨by decide +kernel, by decide +kernel⟩, pv_gt_in (List.mem_of_getElem? (i := 1413) rfl) rfl, ini_X12, by decide +kernel, by decide⟩, pv_gt_in (List.mem_of_getElem? (i := 1412) (by decide +kernel)) rfl, pv_gt_in (List.mem_of_getElem? (i := 45) (by decide +kernel)) rfl⟩
set_option maxRecDepth 1000000 in
theorem moX12_isName : pv_mokS mX12_isName 2 := ⟨⟨⟨by decide +kernel, by decide +kernel⟩, pv_gt_in (List.mem_of_getElem? (i := 1416) rfl) rfl, ini_X12, by decide +kernel, by decide⟩, pv_gt_in (List.mem_of_getElem? (i := 1415) (by decide +kernel)) rfl⟩
set_option maxRecDepth 1000000 in
theorem moX12_adds : pv_mokV mX12_adds 3 := ⟨⟨⟨by decide +kernel, by decide +kernel⟩, pv_gt_in (List.mem_of_getElem? (i := 1420) rfl) rfl, ini_X12, by decide +kernel, by decide⟩, pv_gt_in (List.mem_of_getElem? (i := 1419) (by decide +kernel)) rfl, pv_gt_in (List.mem_of_getElem? (i := 46) (by decide +kernel)) rfl⟩
set_option maxRecDepth 1000000 in
theorem moX12_isDigit : pv_mokS mX12_isDigit 1 := ⟨⟨⟨by decide +kernel, by decide +kernel⟩, pv_gt_in (List.mem_of_getElem? (i := 1423) rfl) rfl, ini_X12, by decide +kernel, by decide⟩, pv_gt_in (List.mem_of_getElem? (i := 1422) (by decide +kernel)) rfl⟩
set_option maxRecDepth 1000000 in
theorem moX12_signOf : pv_mokS mX12_signOf 1 := ⟨⟨⟨by decide +kernel, by decide +kernel⟩, pv_gt_in (List.mem_of_getElem? (i := 1426) rfl) rfl, ini_X12, by decide +kernel, by decide⟩, pv_gt_in (List.mem_of_getElem? (i := 1425) (by decide +kernel)) rfl⟩
set_option maxRecDepth 1000000 in
theorem moX12_tight : pv_mokS mX12_tight 1 := ⟨⟨⟨by decide +kernel, by decide +kernel⟩, pv_gt_in (List.mem_of_getElem? (i := 1429) rfl) rfl, ini_X12, by decide +kernel, by decide⟩, pv_gt_in (List.mem_of_getElem? (i := 1428) (by decide +kernel)) rfl⟩
set_option maxRecDepth 1000000 in
theorem moX12_done : pv_mokV mX12_done 2 := ⟨⟨⟨by decide +kernel, by decide +kernel⟩, pv_gt_in (List.mem_of_getElem? (i := 1433) rfl) rfl, ini_X12, by decide +kernel, by decide⟩, pv_gt_in (List.mem_of_getElem? (i := 1432) (by decide +kernel)) rfl, pv_gt_in (List.mem_of_getElem? (i := 47) (by decide +kernel)) rfl⟩
set_option maxRecDepth 1000000 in
theorem moX12_inForce : pv_mokV mX12_inForce 3 := ⟨⟨⟨by decide +kernel, by decide +kernel⟩, pv_gt_in (List.mem_of_getElem? (i := 1437) rfl) rfl, ini_X12, by decide +kernel, by decide⟩, pv_gt_in (List.mem_of_getElem? (i := 1435) (by decide +kernel)) rfl, pv_gt_in (List.mem_of_getElem? (i := 1436) (by decide +kernel)) rfl⟩
set_option maxRecDepth 1000000 in
theorem moX12_isDay : pv_mokS mX12_isDay 1 := ⟨⟨⟨by decide +kernel, by decide +kernel⟩, pv_gt_in (List.mem_of_getElem? (i := 1440) rfl) rfl, ini_X12, by decide +kernel, by decide⟩, pv_gt_in (List.mem_of_getElem? (i := 1439) (by decide +kernel)) rfl⟩
set_option maxRecDepth 1000000 in
theorem moX12_forceOn : pv_mokV mX12_forceOn 3 := ⟨⟨⟨by decide +kernel, by decide +kernel⟩, pv_gt_in (List.mem_of_getElem? (i := 1444) rfl) rfl, ini_X12, by decide +kernel, by decide⟩, pv_gt_in (List.mem_of_getElem? (i := 1443) (by decide +kernel)) rfl, pv_gt_in (List.mem_of_getElem? (i := 48) (by decide +kernel)) rfl⟩
set_option maxRecDepth 1000000 in
theorem moX12_rate : pv_mokV mX12_rate 3 := ⟨⟨⟨by decide +kernel, by decide +kernel⟩, pv_gt_in (List.mem_of_getElem? (i := 1448) rfl) rfl, ini_X12, by decide +kernel, by decide⟩, pv_gt_in (List.mem_of_getElem? (i := 1446) (by decide +kernel)) rfl, pv_gt_in (List.mem_of_getElem? (i := 1447) (by decide +kernel)) rfl⟩
set_option maxRecDepth 1000000 in
theorem moX12_isHouse : pv_mokV mX12_isHouse 1 := ⟨⟨⟨by decide +kernel, by decide +kernel⟩, pv_gt_in (List.mem_of_getElem? (i := 1452) rfl) rfl, ini_X12, by decide +kernel, by decide⟩, pv_gt_in (List.mem_of_getElem? (i := 1451) (by decide +kernel)) rfl, pv_gt_in (List.mem_of_getElem? (i := 49) (by decide +kernel)) rfl⟩
set_option maxRecDepth 1000000 in
theorem moX12_part : pv_mokV mX12_part 4 := ⟨⟨⟨by decide +kernel, by decide +kernel⟩, pv_gt_in (List.mem_of_getElem? (i := 1457) rfl) rfl, ini_X12, by decide +kernel, by decide⟩, pv_gt_in (List.mem_of_getElem? (i := 1456) (by decide +kernel)) rfl, pv_gt_in (List.mem_of_getElem? (i := 50) (by decide +kernel)) rfl⟩
set_option maxRecDepth 1000000 in
theorem moX12_says : pv_mokV mX12_says 1 := ⟨⟨⟨by decide +kernel, by decide +kernel⟩, pv_gt_in (List.mem_of_getElem? (i := 1461) rfl) rfl, ini_X12, by decide +kernel, by decide⟩, pv_gt_in (List.mem_of_getElem? (i := 1460) (by decide +kernel)) rfl, pv_gt_in (List.mem_of_getElem? (i := 51) (by decide +kernel)) rfl⟩
set_option maxRecDepth 1000000 in
theorem moX12_both : pv_mokS mX12_both 3 := ⟨⟨⟨by decide +kernel, by decide +kernel⟩, pv_gt_in (List.mem_of_getElem? (i := 1464) rfl) rfl, ini_X12, by decide +kernel, by decide⟩, pv_gt_in (List.mem_of_getElem? (i := 1463) (by decide +kernel)) rfl⟩
set_option maxRecDepth 1000000 in
theorem moX12_clamp : pv_mokS mX12_clamp 1 := ⟨⟨⟨by decide +kernel, by decide +kernel⟩, pv_gt_in (List.mem_of_getElem? (i := 1467) rfl) rfl, ini_X12, by decide +kernel, by decide⟩, pv_gt_in (List.mem_of_getElem? (i := 1466) (by decide +kernel)) rfl⟩
set_option maxRecDepth 1000000 in
theorem moX12_rates : pv_mokV mX12_rates 2 := ⟨⟨⟨by decide +kernel, by decide +kernel⟩, pv_gt_in (List.mem_of_getElem? (i := 1471) rfl) rfl, ini_X12, by decide +kernel, by decide⟩, pv_gt_in (List.mem_of_getElem? (i := 1469) (by decide +kernel)) rfl, pv_gt_in (List.mem_of_getElem? (i := 1470) (by decide +kernel)) rfl⟩
set_option maxRecDepth 1000000 in
theorem moX12_clause : pv_mokV mX12_clause 2 := ⟨⟨⟨by decide +kernel, by decide +kernel⟩, pv_gt_in (List.mem_of_getElem? (i := 1475) rfl) rfl, ini_X12, by decide +kernel, by decide⟩, pv_gt_in (List.mem_of_getElem? (i := 1473) (by decide +kernel)) rfl, pv_gt_in (List.mem_of_getElem? (i := 1474) (by decide +kernel)) rfl⟩
set_option maxRecDepth 1000000 in
theorem moX12_open : pv_mokV mX12_open 4 := ⟨⟨⟨by decide +kernel, by decide +kernel⟩, pv_gt_in (List.mem_of_getElem? (i := 1479) rfl) rfl, ini_X12, by decide +kernel, by decide⟩, pv_gt_in (List.mem_of_getElem? (i := 1477) (by decide +kernel)) rfl, pv_gt_in (List.mem_of_getElem? (i := 1478) (by decide +kernel)) rfl⟩
set_option maxRecDepth 1000000 in
theorem moX12_isAt : pv_mokV mX12_isAt 2 := ⟨⟨⟨by decide +kernel, by decide +kernel⟩, pv_gt_in (List.mem_of_getElem? (i := 1483) rfl) rfl, ini_X12, by decide +kernel, by decide⟩, pv_gt_in (List.mem_of_getElem? (i := 1482) (by decide +kernel)) rfl, pv_gt_in (List.mem_of_getElem? (i := 52) (by decide +kernel)) rfl⟩
set_option maxRecDepth 1000000 in
theorem moX12_openNow : pv_mokV mX12_openNow 2 := ⟨⟨⟨by decide +kernel, by decide +kernel⟩, pv_gt_in (List.mem_of_getElem? (i := 1487) rfl) rfl, ini_X12, by decide +kernel, by decide⟩, pv_gt_in (List.mem_of_getElem? (i := 1486) (by decide +kernel)) rfl, pv_gt_in (List.mem_of_getElem? (i := 53) (by decide +kernel)) rfl⟩
set_option maxRecDepth 1000000 in
theorem moX12_back : pv_mokV mX12_back 1 := ⟨⟨⟨by decide +kernel, by decide +kernel⟩, pv_gt_in (List.mem_of_getElem? (i := 1491) rfl) rfl, ini_X12, by decide +kernel, by decide⟩, pv_gt_in (List.mem_of_getElem? (i := 1489) (by decide +kernel)) rfl, pv_gt_in (List.mem_of_getElem? (i := 1490) (by decide +kernel)) rfl⟩
set_option maxRecDepth 1000000 in
theorem moX12_isOpening : pv_mokV mX12_isOpening 1 := ⟨⟨⟨by decide +kernel, by decide +kernel⟩, pv_gt_in (List.mem_of_getElem? (i := 1495) rfl) rfl, ini_X12, by decide +kernel, by decide⟩, pv_gt_in (List.mem_of_getElem? (i := 1494) (by decide +kernel)) rfl, pv_gt_in (List.mem_of_getElem? (i := 54) (by decide +kernel)) rfl⟩
set_option maxRecDepth 1000000 in
theorem moX12_penalty : pv_mokV mX12_penalty 3 := ⟨⟨⟨by decide +kernel, by decide +kernel⟩, pv_gt_in (List.mem_of_getElem? (i := 1499) rfl) rfl, ini_X12, by decide +kernel, by decide⟩, pv_gt_in (List.mem_of_getElem? (i := 1497) (by decide +kernel)) rfl, pv_gt_in (List.mem_of_getElem? (i := 1498) (by decide +kernel)) rfl⟩
set_option maxRecDepth 1000000 in
theorem moX12_sink : pv_mokV mX12_sink 2 := ⟨⟨⟨by decide +kernel, by decide +kernel⟩, pv_gt_in (List.mem_of_getElem? (i := 1503) rfl) rfl, ini_X12, by decide +kernel, by decide⟩, pv_gt_in (List.mem_of_getElem? (i := 1501) (by decide +kernel)) rfl, pv_gt_in (List.mem_of_getElem? (i := 1502) (by decide +kernel)) rfl⟩
set_option maxRecDepth 1000000 in
theorem moX12_opening : pv_mokV mX12_opening 2 := ⟨⟨⟨by decide +kernel, by decide +kernel⟩, pv_gt_in (List.mem_of_getElem? (i := 1507) rfl) rfl, ini_X12, by decide +kernel, by decide⟩, pv_gt_in (List.mem_of_getElem? (i := 1505) (by decide +kernel)) rfl, pv_gt_in (List.mem_of_getElem? (i := 1506) (by decide +kernel)) rfl⟩
set_option maxRecDepth 1000000 in
theorem moX12_draw : pv_mokV mX12_draw 3 := ⟨⟨⟨by decide +kernel, by decide +kernel⟩, pv_gt_in (List.mem_of_getElem? (i := 1511) rfl) rfl, ini_X12, by decide +kernel, by decide⟩, pv_gt_in (List.mem_of_getElem? (i := 1509) (by decide +kernel)) rfl, pv_gt_in (List.mem_of_getElem? (i := 1510) (by decide +kernel)) rfl⟩
set_option maxRecDepth 1000000 in
theorem moX12_drawn : pv_mokV mX12_drawn 1 := ⟨⟨⟨by decide +kernel, by decide +kernel⟩, pv_gt_in (List.mem_of_getElem? (i := 1516) rfl) rfl, ini_X12, by decide +kernel, by decide⟩, pv_gt_in (List.mem_of_getElem? (i := 1514) (by decide +kernel)) rfl, pv_gt_in (List.mem_of_getElem? (i := 1515) (by decide +kernel)) rfl⟩
set_option maxRecDepth 1000000 in
theorem moX12_bad : pv_mokV mX12_bad 4 := ⟨⟨⟨by decide +kernel, by decide +kernel⟩, pv_gt_in (List.mem_of_getElem? (i := 1520) rfl) rfl, ini_X12, by decide +kernel, by decide⟩, pv_gt_in (List.mem_of_getElem? (i := 1518) (by decide +kernel)) rfl, pv_gt_in (List.mem_of_getElem? (i := 1519) (by decide +kernel)) rfl⟩
set_option maxRecDepth 1000000 in
theorem moX12_choose : pv_mokV mX12_choose 2 := ⟨⟨⟨by decide +kernel, by decide +kernel⟩, pv_gt_in (List.mem_of_getElem? (i := 1524) rfl) rfl, ini_X12, by decide +kernel, by decide⟩, pv_gt_in (List.mem_of_getElem? (i := 1523) (by decide +kernel)) rfl, pv_gt_in (List.mem_of_getElem? (i := 55) (by decide +kernel)) rfl⟩
set_option maxRecDepth 1000000 in
theorem moX12_count : pv_mokV mX12_count 1 := ⟨⟨⟨by decide +kernel, by decide +kernel⟩, pv_gt_in (List.mem_of_getElem? (i := 1529) rfl) rfl, ini_X12, by decide +kernel, by decide⟩, pv_gt_in (List.mem_of_getElem? (i := 1527) (by decide +kernel)) rfl, pv_gt_in (List.mem_of_getElem? (i := 1528) (by decide +kernel)) rfl⟩
theorem ml_L_9 : Cond.methodLink RL 9 yX11_init ∈ pv_gt := pv_gt_in (List.mem_of_getElem? (i := 81) (by decide +kernel)) rfl
theorem ml_X11_3 : Cond.methodLink RX11 3 Lib.objectInit ∈ pv_gt := pv_gt_in (List.mem_of_getElem? (i := 84) (by decide +kernel)) rfl
theorem ml_X11_17 : Cond.methodLink RX11 17 yX2_init ∈ pv_gt := pv_gt_in (List.mem_of_getElem? (i := 91) (by decide +kernel)) rfl
theorem ml_X2_3 : Cond.methodLink RX2 3 Lib.objectInit ∈ pv_gt := pv_gt_in (List.mem_of_getElem? (i := 94) (by decide +kernel)) rfl
theorem ml_X11_24 : Cond.methodLink RX11 24 yX4_init ∈ pv_gt := pv_gt_in (List.mem_of_getElem? (i := 105) (by decide +kernel)) rfl
theorem ml_X4_3 : Cond.methodLink RX4 3 Lib.objectInit ∈ pv_gt := pv_gt_in (List.mem_of_getElem? (i := 108) (by decide +kernel)) rfl
theorem ml_X11_31 : Cond.methodLink RX11 31 yX10_init ∈ pv_gt := pv_gt_in (List.mem_of_getElem? (i := 139) (by decide +kernel)) rfl
theorem ml_X10_3 : Cond.methodLink RX10 3 Lib.objectInit ∈ pv_gt := pv_gt_in (List.mem_of_getElem? (i := 142) (by decide +kernel)) rfl
theorem ml_X11_38 : Cond.methodLink RX11 38 yX7_init ∈ pv_gt := pv_gt_in (List.mem_of_getElem? (i := 161) (by decide +kernel)) rfl
theorem ml_X7_3 : Cond.methodLink RX7 3 Lib.objectInit ∈ pv_gt := pv_gt_in (List.mem_of_getElem? (i := 164) (by decide +kernel)) rfl
theorem ml_X7_33 : Cond.methodLink RX7 33 yJ7_fill_53178 ∈ pv_gt := pv_gt_in (List.mem_of_getElem? (i := 165) (by decide +kernel)) rfl
theorem ml_X11_51 : Cond.methodLink RX11 51 yX1_init ∈ pv_gt := pv_gt_in (List.mem_of_getElem? (i := 206) (by decide +kernel)) rfl
theorem ml_X1_3 : Cond.methodLink RX1 3 Lib.objectInit ∈ pv_gt := pv_gt_in (List.mem_of_getElem? (i := 209) (by decide +kernel)) rfl
theorem ml_X1_23 : Cond.methodLink RX1 23 yX9_init ∈ pv_gt := pv_gt_in (List.mem_of_getElem? (i := 214) (by decide +kernel)) rfl
theorem ml_X9_3 : Cond.methodLink RX9 3 Lib.objectInit ∈ pv_gt := pv_gt_in (List.mem_of_getElem? (i := 217) (by decide +kernel)) rfl
theorem ml_X11_64 : Cond.methodLink RX11 64 yX5_init ∈ pv_gt := pv_gt_in (List.mem_of_getElem? (i := 268) (by decide +kernel)) rfl
theorem ml_X5_3 : Cond.methodLink RX5 3 Lib.objectInit ∈ pv_gt := pv_gt_in (List.mem_of_getElem? (i := 271) (by decide +kernel)) rfl
theorem ml_L_13 : Cond.methodLink RL 13 yX11_street ∈ pv_gt := pv_gt_in (List.mem_of_getElem? (i := 329) (by decide +kernel)) rfl
theorem ml_X11_69 : Cond.methodLink RX11 69 yX11_within ∈ pv_gt := pv_gt_in (List.mem_of_getElem? (i := 333) (by decide +kernel)) rfl
theorem ml_X11_77 : Cond.methodLink RX11 77 yX8_init ∈ pv_gt := pv_gt_in (List.mem_of_getElem? (i := 337) (by decide +kernel)) rfl
theorem ml_X8_3 : Cond.methodLink RX8 3 Lib.objectInit ∈ pv_gt := pv_gt_in (List.mem_of_getElem? (i := 340) (by decide +kernel)) rfl
theorem ml_X8_22 : Cond.methodLink RX8 22 yJ7_fill_53178 ∈ pv_gt := pv_gt_in (List.mem_of_getElem? (i := 341) (by decide +kernel)) rfl
theorem ml_L_18 : Cond.methodLink RL 18 yX11_height ∈ pv_gt := pv_gt_in (List.mem_of_getElem? (i := 381) (by decide +kernel)) rfl
theorem ml_X11_80 : Cond.methodLink RX11 80 yX11_findStreet ∈ pv_gt := pv_gt_in (List.mem_of_getElem? (i := 385) (by decide +kernel)) rfl
theorem ml_X11_84 : Cond.methodLink RX11 84 yX8_has ∈ pv_gt := pv_gt_in (List.mem_of_getElem? (i := 389) (by decide +kernel)) rfl
theorem ml_X11_88 : Cond.methodLink RX11 88 yX8_placeOf ∈ pv_gt := pv_gt_in (List.mem_of_getElem? (i := 393) (by decide +kernel)) rfl
theorem ml_L_23 : Cond.methodLink RL 23 yX11_read ∈ pv_gt := pv_gt_in (List.mem_of_getElem? (i := 397) (by decide +kernel)) rfl
theorem ml_L_27 : Cond.methodLink RL 27 yX11_drain ∈ pv_gt := pv_gt_in (List.mem_of_getElem? (i := 401) (by decide +kernel)) rfl
theorem ml_L_31 : Cond.methodLink RL 31 yX11_water ∈ pv_gt := pv_gt_in (List.mem_of_getElem? (i := 405) (by decide +kernel)) rfl
theorem ml_X11_99 : Cond.methodLink RX11 99 yX8_endOfWater ∈ pv_gt := pv_gt_in (List.mem_of_getElem? (i := 409) (by decide +kernel)) rfl
theorem ml_X8_53 : Cond.methodLink RX8 53 yX8_nextOfWater ∈ pv_gt := pv_gt_in (List.mem_of_getElem? (i := 413) (by decide +kernel)) rfl
theorem ml_X8_34 : Cond.methodLink RX8 34 yX8_rowOf ∈ pv_gt := pv_gt_in (List.mem_of_getElem? (i := 417) (by decide +kernel)) rfl
theorem ml_X8_38 : Cond.methodLink RX8 38 yX8_columnOf ∈ pv_gt := pv_gt_in (List.mem_of_getElem? (i := 421) (by decide +kernel)) rfl
theorem ml_X8_41 : Cond.methodLink RX8 41 yX8_lowerOf ∈ pv_gt := pv_gt_in (List.mem_of_getElem? (i := 425) (by decide +kernel)) rfl
theorem ml_X8_45 : Cond.methodLink RX8 45 yX8_has ∈ pv_gt := pv_gt_in (List.mem_of_getElem? (i := 429) (by decide +kernel)) rfl
theorem ml_X8_49 : Cond.methodLink RX8 49 yX8_placeOf ∈ pv_gt := pv_gt_in (List.mem_of_getElem? (i := 430) (by decide +kernel)) rfl
theorem ml_X11_103 : Cond.methodLink RX11 103 yX8_rowOf ∈ pv_gt := pv_gt_in (List.mem_of_getElem? (i := 431) (by decide +kernel)) rfl
theorem ml_X11_106 : Cond.methodLink RX11 106 yX8_columnOf ∈ pv_gt := pv_gt_in (List.mem_of_getElem? (i := 432) (by decide +kernel)) rfl
theorem ml_L_35 : Cond.methodLink RL 35 yX11_standing ∈ pv_gt := pv_gt_in (List.mem_of_getElem? (i := 433) (by decide +kernel)) rfl
theorem ml_X11_109 : Cond.methodLink RX11 109 yX2_countStanding ∈ pv_gt := pv_gt_in (List.mem_of_getElem? (i := 437) (by decide +kernel)) rfl
theorem ml_X2_18 : Cond.methodLink RX2 18 yX2_findEnds ∈ pv_gt := pv_gt_in (List.mem_of_getElem? (i := 441) (by decide +kernel)) rfl
theorem ml_X2_42 : Cond.methodLink RX2 42 yX8_nextOfWater ∈ pv_gt := pv_gt_in (List.mem_of_getElem? (i := 445) (by decide +kernel)) rfl
theorem ml_L_40 : Cond.methodLink RL 40 yX11_most ∈ pv_gt := pv_gt_in (List.mem_of_getElem? (i := 446) (by decide +kernel)) rfl
theorem ml_X11_113 : Cond.methodLink RX11 113 yX2_countMost ∈ pv_gt := pv_gt_in (List.mem_of_getElem? (i := 450) (by decide +kernel)) rfl
theorem ml_X2_30 : Cond.methodLink RX2 30 yJ7_fill_53178 ∈ pv_gt := pv_gt_in (List.mem_of_getElem? (i := 454) (by decide +kernel)) rfl
theorem ml_X2_36 : Cond.methodLink RX2 36 yJ9_max_7cf53 ∈ pv_gt := pv_gt_in (List.mem_of_getElem? (i := 455) (by decide +kernel)) rfl
theorem ml_L_44 : Cond.methodLink RL 44 yX11_level ∈ pv_gt := pv_gt_in (List.mem_of_getElem? (i := 458) (by decide +kernel)) rfl
theorem ml_X11_116 : Cond.methodLink RX11 116 yX4_levelRow ∈ pv_gt := pv_gt_in (List.mem_of_getElem? (i := 462) (by decide +kernel)) rfl
theorem ml_X4_39 : Cond.methodLink RX4 39 yX8_placeOf ∈ pv_gt := pv_gt_in (List.mem_of_getElem? (i := 466) (by decide +kernel)) rfl
theorem ml_X4_43 : Cond.methodLink RX4 43 yX4_weighColumn ∈ pv_gt := pv_gt_in (List.mem_of_getElem? (i := 467) (by decide +kernel)) rfl
theorem ml_X4_65 : Cond.methodLink RX4 65 yJ9_abs_0f7a4 ∈ pv_gt := pv_gt_in (List.mem_of_getElem? (i := 471) (by decide +kernel)) rfl
theorem ml_X4_71 : Cond.methodLink RX4 71 yX4_lowestBehind ∈ pv_gt := pv_gt_in (List.mem_of_getElem? (i := 474) (by decide +kernel)) rfl
theorem ml_X4_74 : Cond.methodLink RX4 74 yX4_highestBehind ∈ pv_gt := pv_gt_in (List.mem_of_getElem? (i := 478) (by decide +kernel)) rfl
