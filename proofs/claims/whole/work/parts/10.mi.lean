abbrev mX0_init : ax_MI := (yX0_init, cX0_init, 1, none, 1)
abbrev mX0_isFull : ax_MI := (yX0_isFull, cX0_isFull, 1, (some .boolean), 0)
abbrev mX0_stationCount : ax_MI := (yX0_stationCount, cX0_stationCount, 1, (some .int), 0)
abbrev mX0_find : ax_MI := (yX0_find, cX0_find, 2, (some (.object "GlassRoom$Station")), 1)
abbrev mX0_isTaken : ax_MI := (yX0_isTaken, cX0_isTaken, 5, (some .boolean), 2)
abbrev mX0_add : ax_MI := (yX0_add, cX0_add, 5, (some .int), 2)
abbrev mX0_countReadings : ax_MI := (yX0_countReadings, cX0_countReadings, 4, (some .int), 2)
abbrev mX0_countMendings : ax_MI := (yX0_countMendings, cX0_countMendings, 4, (some .int), 2)
abbrev mX0_readLevels : ax_MI := (yX0_readLevels, cX0_readLevels, 5, (some .boolean), 4)
abbrev mX0_readHour : ax_MI := (yX0_readHour, cX0_readHour, 3, (some .boolean), 5)
abbrev mX0_fieldAt : ax_MI := (yX0_fieldAt, cX0_fieldAt, 11, (some .int), 2)
abbrev mX0_excess : ax_MI := (yX0_excess, cX0_excess, 4, (some .int), 3)
abbrev mX0_fieldOf : ax_MI := (yX0_fieldOf, cX0_fieldOf, 2, (some .int), 0)
abbrev mX0_isLow : ax_MI := (yX0_isLow, cX0_isLow, 7, (some .boolean), 1)
abbrev mX0_lowCount : ax_MI := (yX0_lowCount, cX0_lowCount, 1, (some .int), 0)
abbrev mX0_lowPoint : ax_MI := (yX0_lowPoint, cX0_lowPoint, 2, (some .int), 1)
abbrev mX0_lowNear : ax_MI := (yX0_lowNear, cX0_lowNear, 6, (some .int), 1)
abbrev mX1_holds : ax_MI := (yX1_holds, cX1_holds, 1, (some .boolean), 1)
abbrev mX1_held : ax_MI := (yX1_held, cX1_held, 2, (some .int), 1)
abbrev mX1_climb : ax_MI := (yX1_climb, cX1_climb, 3, (some .long), 1)
abbrev mX1_reduced : ax_MI := (yX1_reduced, cX1_reduced, 4, (some .int), 2)
abbrev mX1_sumNeeded : ax_MI := (yX1_sumNeeded, cX1_sumNeeded, 4, (some .int), 1)
abbrev mX1_sumTo : ax_MI := (yX1_sumTo, cX1_sumTo, 4, (some .int), 0)
abbrev mX1_leastReaching : ax_MI := (yX1_leastReaching, cX1_leastReaching, 4, (some .int), 0)
abbrev mX2_init : ax_MI := (yX2_init, cX2_init, 1, none, 1)
abbrev mX2_drawAt : ax_MI := (yX2_drawAt, cX2_drawAt, 5, none, 3)
abbrev mX2_sumOfAll : ax_MI := (yX2_sumOfAll, cX2_sumOfAll, 2, (some .int), 0)
abbrev mX2_hasLine : ax_MI := (yX2_hasLine, cX2_hasLine, 2, (some .boolean), 1)
abbrev mX2_ofLine : ax_MI := (yX2_ofLine, cX2_ofLine, 4, (some .int), 0)
abbrev mX2_markPoints : ax_MI := (yX2_markPoints, cX2_markPoints, 4, none, 1)
abbrev mX2_cutSides : ax_MI := (yX2_cutSides, cX2_cutSides, 4, none, 0)
abbrev mX2_crossSquare : ax_MI := (yX2_crossSquare, cX2_crossSquare, 12, none, 2)
abbrev mX2_isCut : ax_MI := (yX2_isCut, cX2_isCut, 2, (some .boolean), 0)
abbrev mX2_join : ax_MI := (yX2_join, cX2_join, 5, none, 1)
abbrev mX2_leastOf : ax_MI := (yX2_leastOf, cX2_leastOf, 4, (some .int), 0)
abbrev mX2_gatherLines : ax_MI := (yX2_gatherLines, cX2_gatherLines, 2, none, 2)
abbrev mX2_addToLine : ax_MI := (yX2_addToLine, cX2_addToLine, 3, none, 1)
abbrev mX2_isAtBorder : ax_MI := (yX2_isAtBorder, cX2_isAtBorder, 2, (some .boolean), 0)
abbrev mX3_init : ax_MI := (yX3_init, cX3_init, 1, none, 1)
abbrev mX3_hour : ax_MI := (yX3_hour, cX3_hour, 1, (some .int), 0)
abbrev mX3_top : ax_MI := (yX3_top, cX3_top, 1, (some .long), 0)
abbrev mX3_bottom : ax_MI := (yX3_bottom, cX3_bottom, 1, (some .long), 0)
abbrev mX3_compare : ax_MI := (yX3_compare, cX3_compare, 5, none, 5)
abbrev mX3_search : ax_MI := (yX3_search, cX3_search, 7, (some .boolean), 2)
abbrev mX3_take : ax_MI := (yX3_take, cX3_take, 7, none, 1)
abbrev mX4_init : ax_MI := (yX4_init, cX4_init, 1, none, 2)
abbrev mX4_hasNumber : ax_MI := (yX4_hasNumber, cX4_hasNumber, 1, (some .boolean), 1)
abbrev mX4_allows : ax_MI := (yX4_allows, cX4_allows, 2, (some .boolean), 1)
abbrev mX4_number : ax_MI := (yX4_number, cX4_number, 2, (some .int), 0)
abbrev mX4_putNumber : ax_MI := (yX4_putNumber, cX4_putNumber, 3, none, 0)
abbrev mX4_findAir : ax_MI := (yX4_findAir, cX4_findAir, 7, (some .int), 1)
abbrev mX4_airPart : ax_MI := (yX4_airPart, cX4_airPart, 2, (some .long), 2)
abbrev mX4_corrected : ax_MI := (yX4_corrected, cX4_corrected, 13, (some .long), 1)
abbrev mX5_init : ax_MI := (yX5_init, cX5_init, 5, none, 1)
abbrev mX5_isAt : ax_MI := (yX5_isAt, cX5_isAt, 3, (some .boolean), 0)
abbrev mX5_hasReading : ax_MI := (yX5_hasReading, cX5_hasReading, 2, (some .boolean), 0)
abbrev mX5_putReading : ax_MI := (yX5_putReading, cX5_putReading, 4, none, 0)
abbrev mX5_clearReading : ax_MI := (yX5_clearReading, cX5_clearReading, 2, none, 0)
abbrev mX5_countReadings : ax_MI := (yX5_countReadings, cX5_countReadings, 3, (some .int), 1)
abbrev mX5_warmth : ax_MI := (yX5_warmth, cX5_warmth, 2, (some .int), 0)
abbrev mX5_mendings : ax_MI := (yX5_mendings, cX5_mendings, 1, (some .int), 0)
abbrev mX5_addMending : ax_MI := (yX5_addMending, cX5_addMending, 4, none, 0)
abbrev mX5_toldOf : ax_MI := (yX5_toldOf, cX5_toldOf, 3, (some .long), 4)
abbrev mX5_mended : ax_MI := (yX5_mended, cX5_mended, 5, (some .long), 2)
abbrev mX5_levelAt : ax_MI := (yX5_levelAt, cX5_levelAt, 2, (some .int), 3)
abbrev mX6_init : ax_MI := (yX6_init, cX6_init, 1, none, 1)
abbrev mX6_benchCount : ax_MI := (yX6_benchCount, cX6_benchCount, 1, (some .int), 0)
abbrev mX6_count : ax_MI := (yX6_count, cX6_count, 1, (some .int), 0)
abbrev mX6_hasBench : ax_MI := (yX6_hasBench, cX6_hasBench, 2, (some .boolean), 1)
abbrev mX6_hasDifference : ax_MI := (yX6_hasDifference, cX6_hasDifference, 2, (some .boolean), 1)
abbrev mX6_startAnew : ax_MI := (yX6_startAnew, cX6_startAnew, 2, none, 0)
abbrev mX6_add : ax_MI := (yX6_add, cX6_add, 5, (some .int), 0)
abbrev mX6_removeLatest : ax_MI := (yX6_removeLatest, cX6_removeLatest, 1, (some .int), 0)
abbrev mX6_joins : ax_MI := (yX6_joins, cX6_joins, 3, (some .boolean), 1)
abbrev mX6_firstUp : ax_MI := (yX6_firstUp, cX6_firstUp, 4, (some .long), 1)
abbrev mX6_firstBetween : ax_MI := (yX6_firstBetween, cX6_firstBetween, 4, (some .int), 0)
abbrev mX6_heightTop : ax_MI := (yX6_heightTop, cX6_heightTop, 2, (some .long), 0)
abbrev mX6_misfitTop : ax_MI := (yX6_misfitTop, cX6_misfitTop, 2, (some .long), 0)
abbrev mX6_bottom : ax_MI := (yX6_bottom, cX6_bottom, 1, (some .long), 0)
abbrev mX6_greatestMisfit : ax_MI := (yX6_greatestMisfit, cX6_greatestMisfit, 3, (some .int), 1)
abbrev mX6_solve : ax_MI := (yX6_solve, cX6_solve, 3, (some .boolean), 7)
abbrev mX6_fillRows : ax_MI := (yX6_fillRows, cX6_fillRows, 4, none, 1)
abbrev mX6_addToRow : ax_MI := (yX6_addToRow, cX6_addToRow, 6, none, 0)
abbrev mX6_determinant (d : Nat) : ax_MI := (yX6_determinant, cX6_determinant, 11, (some .long), d)
abbrev mX7_init : ax_MI := (yX7_init, cX7_init, 2, none, 3)
abbrev mX7_set : ax_MI := (yX7_set, cX7_set, 6, (some .int), 2)
abbrev mX7_glass : ax_MI := (yX7_glass, cX7_glass, 4, (some .int), 2)
abbrev mX7_seal : ax_MI := (yX7_seal, cX7_seal, 7, (some .int), 2)
abbrev mX7_air : ax_MI := (yX7_air, cX7_air, 4, (some .long), 3)
abbrev mX7_right : ax_MI := (yX7_right, cX7_right, 5, (some .long), 2)
abbrev mX7_station : ax_MI := (yX7_station, cX7_station, 6, (some .int), 3)
abbrev mX7_tell : ax_MI := (yX7_tell, cX7_tell, 7, (some .int), 2)
abbrev mX7_gap : ax_MI := (yX7_gap, cX7_gap, 5, (some .int), 2)
abbrev mX7_reading : ax_MI := (yX7_reading, cX7_reading, 5, (some .long), 5)
abbrev mX7_rise : ax_MI := (yX7_rise, cX7_rise, 4, (some .long), 2)
abbrev mX7_between : ax_MI := (yX7_between, cX7_between, 9, (some .long), 3)
abbrev mX7_benches : ax_MI := (yX7_benches, cX7_benches, 3, (some .int), 1)
abbrev mX7_difference : ax_MI := (yX7_difference, cX7_difference, 5, (some .int), 2)
abbrev mX7_drop : ax_MI := (yX7_drop, cX7_drop, 1, (some .int), 1)
abbrev mX7_height : ax_MI := (yX7_height, cX7_height, 3, (some .long), 8)
abbrev mX7_off : ax_MI := (yX7_off, cX7_off, 3, (some .long), 8)
abbrev mX7_worst : ax_MI := (yX7_worst, cX7_worst, 1, (some .int), 8)
abbrev mX7_closing : ax_MI := (yX7_closing, cX7_closing, 4, (some .long), 2)
abbrev mX7_field : ax_MI := (yX7_field, cX7_field, 4, (some .long), 5)
abbrev mX7_low : ax_MI := (yX7_low, cX7_low, 3, (some .int), 6)
abbrev mX7_follow : ax_MI := (yX7_follow, cX7_follow, 6, (some .int), 6)
abbrev mX7_lines : ax_MI := (yX7_lines, cX7_lines, 4, (some .int), 6)
abbrev mX7_line : ax_MI := (yX7_line, cX7_line, 5, (some .int), 6)
abbrev mX7_drift : ax_MI := (yX7_drift, cX7_drift, 3, (some .long), 6)
abbrev mX7_mend : ax_MI := (yX7_mend, cX7_mend, 5, (some .long), 6)
abbrev mX7_told : ax_MI := (yX7_told, cX7_told, 2, (some .int), 3)
abbrev mX7_findGlass : ax_MI := (yX7_findGlass, cX7_findGlass, 2, (some (.object "GlassRoom$Glass")), 1)
abbrev mX7_isWithin : ax_MI := (yX7_isWithin, cX7_isWithin, 3, (some .boolean), 0)
abbrev mX7_isReading : ax_MI := (yX7_isReading, cX7_isReading, 1, (some .boolean), 1)
abbrev mX7_isRoom : ax_MI := (yX7_isRoom, cX7_isRoom, 1, (some .boolean), 1)
abbrev mX7_isWarmth : ax_MI := (yX7_isWarmth, cX7_isWarmth, 1, (some .boolean), 1)
abbrev mX7_isHour : ax_MI := (yX7_isHour, cX7_isHour, 1, (some .boolean), 1)
abbrev mX7_isOnMap : ax_MI := (yX7_isOnMap, cX7_isOnMap, 1, (some .boolean), 1)
abbrev mX7_isPart : ax_MI := (yX7_isPart, cX7_isPart, 1, (some .boolean), 0)
abbrev mX7_cut : ax_MI := (yX7_cut, cX7_cut, 4, (some .long), 0)
abbrev mX7_fractionPart : ax_MI := (yX7_fractionPart, cX7_fractionPart, 7, (some .long), 1)
abbrev mX7_commonMeasure : ax_MI := (yX7_commonMeasure, cX7_commonMeasure, 7, (some .long), 0)
abbrev mX7_squareBetween : ax_MI := (yX7_squareBetween, cX7_squareBetween, 4, (some .int), 0)
abbrev mX8_init : ax_MI := (yX8_init, cX8_init, 2, none, 1)
abbrev mX8_in : ax_MI := (yX8_in, cX8_in, 6, (some .boolean), 0)
abbrev mX8_size : ax_MI := (yX8_size, cX8_size, 2, (some .long), 0)
abbrev mX8_common : ax_MI := (yX8_common, cX8_common, 10, (some .long), 1)
abbrev mX8_lowest : ax_MI := (yX8_lowest, cX8_lowest, 7, (some .long), 2)
abbrev mX8_isGlass : ax_MI := (yX8_isGlass, cX8_isGlass, 1, (some .boolean), 1)
abbrev mX8_mayBe : ax_MI := (yX8_mayBe, cX8_mayBe, 2, (some .boolean), 1)
abbrev mX8_set : ax_MI := (yX8_set, cX8_set, 5, (some .int), 2)
abbrev mX8_glass : ax_MI := (yX8_glass, cX8_glass, 3, (some .int), 2)
abbrev mX8_seal : ax_MI := (yX8_seal, cX8_seal, 10, (some .int), 3)
abbrev mX8_air : ax_MI := (yX8_air, cX8_air, 3, (some .long), 2)
abbrev mX8_dropOf : ax_MI := (yX8_dropOf, cX8_dropOf, 1, (some .int), 0)
abbrev mX8_rightOf : ax_MI := (yX8_rightOf, cX8_rightOf, 14, (some .long), 1)
abbrev mX8_isReading : ax_MI := (yX8_isReading, cX8_isReading, 2, (some .boolean), 1)
abbrev mX8_right : ax_MI := (yX8_right, cX8_right, 4, (some .long), 2)
abbrev mX8_isStation : ax_MI := (yX8_isStation, cX8_isStation, 2, (some .boolean), 1)
abbrev mX8_isHour : ax_MI := (yX8_isHour, cX8_isHour, 1, (some .boolean), 1)
abbrev mX8_isPoint : ax_MI := (yX8_isPoint, cX8_isPoint, 2, (some .boolean), 1)
abbrev mX8_station : ax_MI := (yX8_station, cX8_station, 6, (some .int), 2)
abbrev mX8_has : ax_MI := (yX8_has, cX8_has, 3, (some .boolean), 0)
abbrev mX8_tell : ax_MI := (yX8_tell, cX8_tell, 6, (some .int), 2)
abbrev mX8_gap : ax_MI := (yX8_gap, cX8_gap, 4, (some .int), 2)
abbrev mX8_rightAt : ax_MI := (yX8_rightAt, cX8_rightAt, 3, (some .long), 2)
abbrev mX8_mendedAt : ax_MI := (yX8_mendedAt, cX8_mendedAt, 6, (some .long), 3)
abbrev mX8_heldAt : ax_MI := (yX8_heldAt, cX8_heldAt, 5, (some .int), 4)
abbrev mX8_riseOf : ax_MI := (yX8_riseOf, cX8_riseOf, 4, (some .long), 0)
abbrev mX8_levelAt : ax_MI := (yX8_levelAt, cX8_levelAt, 11, (some .int), 5)
abbrev mX8_reading : ax_MI := (yX8_reading, cX8_reading, 4, (some .long), 6)
abbrev mX8_rise : ax_MI := (yX8_rise, cX8_rise, 4, (some .long), 1)
abbrev mX8_between : ax_MI := (yX8_between, cX8_between, 7, (some .long), 5)
abbrev mX8_isBench : ax_MI := (yX8_isBench, cX8_isBench, 2, (some .boolean), 1)
abbrev mX8_benches : ax_MI := (yX8_benches, cX8_benches, 3, (some .int), 1)
abbrev mX8_difference : ax_MI := (yX8_difference, cX8_difference, 5, (some .int), 2)
abbrev mX8_drop : ax_MI := (yX8_drop, cX8_drop, 1, (some .int), 0)
abbrev mX8_areJoined : ax_MI := (yX8_areJoined, cX8_areJoined, 5, (some .boolean), 0)
abbrev mX8_determinant : ax_MI := (yX8_determinant, cX8_determinant, 12, (some .long), 0)
abbrev mX8_laySquare : ax_MI := (yX8_laySquare, cX8_laySquare, 7, none, 1)
abbrev mX8_addTo : ax_MI := (yX8_addTo, cX8_addTo, 5, none, 0)
abbrev mX8_findHeights : ax_MI := (yX8_findHeights, cX8_findHeights, 2, (some .boolean), 2)
abbrev mX8_height : ax_MI := (yX8_height, cX8_height, 3, (some .long), 3)
abbrev mX8_offUpper : ax_MI := (yX8_offUpper, cX8_offUpper, 2, (some .long), 0)
abbrev mX8_off : ax_MI := (yX8_off, cX8_off, 3, (some .long), 3)
abbrev mX8_worst : ax_MI := (yX8_worst, cX8_worst, 3, (some .int), 3)
abbrev mX8_firstOf : ax_MI := (yX8_firstOf, cX8_firstOf, 4, (some .int), 0)
abbrev mX8_closing : ax_MI := (yX8_closing, cX8_closing, 10, (some .long), 2)
abbrev mX8_hasAny : ax_MI := (yX8_hasAny, cX8_hasAny, 5, (some .boolean), 1)
abbrev mX8_findLevels : ax_MI := (yX8_findLevels, cX8_findLevels, 3, none, 6)
abbrev mX8_fieldAt : ax_MI := (yX8_fieldAt, cX8_fieldAt, 14, (some .long), 1)
abbrev mX8_field : ax_MI := (yX8_field, cX8_field, 4, (some .long), 7)
abbrev mX8_findSheet : ax_MI := (yX8_findSheet, cX8_findSheet, 3, none, 7)
abbrev mX8_isLow : ax_MI := (yX8_isLow, cX8_isLow, 7, (some .boolean), 2)
abbrev mX8_lowOf : ax_MI := (yX8_lowOf, cX8_lowOf, 5, (some .int), 8)
abbrev mX8_low : ax_MI := (yX8_low, cX8_low, 3, (some .int), 9)
abbrev mX8_nearest : ax_MI := (yX8_nearest, cX8_nearest, 10, (some .int), 9)
abbrev mX8_follow : ax_MI := (yX8_follow, cX8_follow, 6, (some .int), 10)
abbrev mX8_isHigh : ax_MI := (yX8_isHigh, cX8_isHigh, 4, (some .boolean), 0)
abbrev mX8_link : ax_MI := (yX8_link, cX8_link, 6, none, 0)
abbrev mX8_goThrough : ax_MI := (yX8_goThrough, cX8_goThrough, 12, none, 1)
abbrev mX8_findLines : ax_MI := (yX8_findLines, cX8_findLines, 9, none, 8)
abbrev mX8_ofLine : ax_MI := (yX8_ofLine, cX8_ofLine, 7, (some .int), 0)
abbrev mX8_whyNot : ax_MI := (yX8_whyNot, cX8_whyNot, 4, (some .int), 2)
abbrev mX8_lines : ax_MI := (yX8_lines, cX8_lines, 8, (some .int), 9)
abbrev mX8_line : ax_MI := (yX8_line, cX8_line, 8, (some .int), 9)
abbrev mX8_findDrift : ax_MI := (yX8_findDrift, cX8_findDrift, 3, (some .boolean), 7)
abbrev mX8_tryHour : ax_MI := (yX8_tryHour, cX8_tryHour, 14, none, 1)
abbrev mX8_drift : ax_MI := (yX8_drift, cX8_drift, 3, (some .long), 8)
abbrev mX8_mend : ax_MI := (yX8_mend, cX8_mend, 4, (some .long), 8)
abbrev mX8_told : ax_MI := (yX8_told, cX8_told, 4, (some .int), 0)
def yJ_absI : MethodName := ⟨"java/lang/Math", "abs", "(I)I"⟩
abbrev cJ_absI : ByteArray := prog_12_method_59_code
abbrev mJ_absI : ax_MI := (yJ_absI, cJ_absI, 1, (some .int), 0)
def yJ_absJ : MethodName := ⟨"java/lang/Math", "abs", "(J)J"⟩
abbrev cJ_absJ : ByteArray := prog_12_method_61_code
abbrev mJ_absJ : ax_MI := (yJ_absJ, cJ_absJ, 2, (some .long), 0)
def yJ_maxI : MethodName := ⟨"java/lang/Math", "max", "(II)I"⟩
abbrev cJ_maxI : ByteArray := prog_12_method_65_code
abbrev mJ_maxI : ax_MI := (yJ_maxI, cJ_maxI, 2, (some .int), 0)
def yJ_minI : MethodName := ⟨"java/lang/Math", "min", "(II)I"⟩
abbrev cJ_minI : ByteArray := prog_12_method_69_code
abbrev mJ_minI : ax_MI := (yJ_minI, cJ_minI, 2, (some .int), 0)
def yJ_maxJ : MethodName := ⟨"java/lang/Math", "max", "(JJ)J"⟩
abbrev cJ_maxJ : ByteArray := prog_12_method_66_code
abbrev mJ_maxJ : ax_MI := (yJ_maxJ, cJ_maxJ, 4, (some .long), 0)
def yJ_minJ : MethodName := ⟨"java/lang/Math", "min", "(JJ)J"⟩
abbrev cJ_minJ : ByteArray := prog_12_method_70_code
abbrev mJ_minJ : ax_MI := (yJ_minJ, cJ_minJ, 4, (some .long), 0)
theorem dJ_absI_0 : decode cJ_absI 0 = .ok (.iload_n 0, 1) := by decide +kernel
theorem dJ_absI_1 : decode cJ_absI 1 = .ok (.ifCond .ge 8, 3) := by decide +kernel
theorem dJ_absI_4 : decode cJ_absI 4 = .ok (.iload_n 0, 1) := by decide +kernel
theorem dJ_absI_5 : decode cJ_absI 5 = .ok (.ineg, 1) := by decide +kernel
theorem dJ_absI_6 : decode cJ_absI 6 = .ok (.goto 4, 3) := by decide +kernel
theorem dJ_absI_9 : decode cJ_absI 9 = .ok (.iload_n 0, 1) := by decide +kernel
theorem dJ_absI_10 : decode cJ_absI 10 = .ok (.ireturn, 1) := by decide +kernel
theorem dJ_absJ_0 : decode cJ_absJ 0 = .ok (.lload_n 0, 1) := by decide +kernel
theorem dJ_absJ_1 : decode cJ_absJ 1 = .ok (.lconst 0, 1) := by decide +kernel
theorem dJ_absJ_2 : decode cJ_absJ 2 = .ok (.lcmp, 1) := by decide +kernel
theorem dJ_absJ_3 : decode cJ_absJ 3 = .ok (.ifCond .ge 8, 3) := by decide +kernel
theorem dJ_absJ_6 : decode cJ_absJ 6 = .ok (.lload_n 0, 1) := by decide +kernel
theorem dJ_absJ_7 : decode cJ_absJ 7 = .ok (.lneg, 1) := by decide +kernel
theorem dJ_absJ_8 : decode cJ_absJ 8 = .ok (.goto 4, 3) := by decide +kernel
theorem dJ_absJ_11 : decode cJ_absJ 11 = .ok (.lload_n 0, 1) := by decide +kernel
theorem dJ_absJ_12 : decode cJ_absJ 12 = .ok (.lreturn, 1) := by decide +kernel
theorem dJ_maxI_0 : decode cJ_maxI 0 = .ok (.iload_n 0, 1) := by decide +kernel
theorem dJ_maxI_1 : decode cJ_maxI 1 = .ok (.iload_n 1, 1) := by decide +kernel
theorem dJ_maxI_2 : decode cJ_maxI 2 = .ok (.if_icmp .lt 7, 3) := by decide +kernel
theorem dJ_maxI_5 : decode cJ_maxI 5 = .ok (.iload_n 0, 1) := by decide +kernel
theorem dJ_maxI_6 : decode cJ_maxI 6 = .ok (.goto 4, 3) := by decide +kernel
theorem dJ_maxI_9 : decode cJ_maxI 9 = .ok (.iload_n 1, 1) := by decide +kernel
theorem dJ_maxI_10 : decode cJ_maxI 10 = .ok (.ireturn, 1) := by decide +kernel
theorem dJ_minI_0 : decode cJ_minI 0 = .ok (.iload_n 0, 1) := by decide +kernel
theorem dJ_minI_1 : decode cJ_minI 1 = .ok (.iload_n 1, 1) := by decide +kernel
theorem dJ_minI_2 : decode cJ_minI 2 = .ok (.if_icmp .gt 7, 3) := by decide +kernel
theorem dJ_minI_5 : decode cJ_minI 5 = .ok (.iload_n 0, 1) := by decide +kernel
theorem dJ_minI_6 : decode cJ_minI 6 = .ok (.goto 4, 3) := by decide +kernel
theorem dJ_minI_9 : decode cJ_minI 9 = .ok (.iload_n 1, 1) := by decide +kernel
theorem dJ_minI_10 : decode cJ_minI 10 = .ok (.ireturn, 1) := by decide +kernel
theorem dJ_maxJ_0 : decode cJ_maxJ 0 = .ok (.lload_n 0, 1) := by decide +kernel
theorem dJ_maxJ_1 : decode cJ_maxJ 1 = .ok (.lload_n 2, 1) := by decide +kernel
theorem dJ_maxJ_2 : decode cJ_maxJ 2 = .ok (.lcmp, 1) := by decide +kernel
theorem dJ_maxJ_3 : decode cJ_maxJ 3 = .ok (.ifCond .lt 7, 3) := by decide +kernel
theorem dJ_maxJ_6 : decode cJ_maxJ 6 = .ok (.lload_n 0, 1) := by decide +kernel
theorem dJ_maxJ_7 : decode cJ_maxJ 7 = .ok (.goto 4, 3) := by decide +kernel
theorem dJ_maxJ_10 : decode cJ_maxJ 10 = .ok (.lload_n 2, 1) := by decide +kernel
theorem dJ_maxJ_11 : decode cJ_maxJ 11 = .ok (.lreturn, 1) := by decide +kernel
theorem dJ_minJ_0 : decode cJ_minJ 0 = .ok (.lload_n 0, 1) := by decide +kernel
theorem dJ_minJ_1 : decode cJ_minJ 1 = .ok (.lload_n 2, 1) := by decide +kernel
theorem dJ_minJ_2 : decode cJ_minJ 2 = .ok (.lcmp, 1) := by decide +kernel
theorem dJ_minJ_3 : decode cJ_minJ 3 = .ok (.ifCond .gt 7, 3) := by decide +kernel
theorem dJ_minJ_6 : decode cJ_minJ 6 = .ok (.lload_n 0, 1) := by decide +kernel
theorem dJ_minJ_7 : decode cJ_minJ 7 = .ok (.goto 4, 3) := by decide +kernel
theorem dJ_minJ_10 : decode cJ_minJ 10 = .ok (.lload_n 2, 1) := by decide +kernel
theorem dJ_minJ_11 : decode cJ_minJ 11 = .ok (.lreturn, 1) := by decide +kernel
