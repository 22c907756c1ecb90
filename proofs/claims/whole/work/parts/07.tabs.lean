/-! THE TABLES: the methods by number (own class, name, code, locals, answer); ranks; what the pools name -/
abbrev aJ : Type := Nat × MethodName × ByteArray × Nat × Option FieldType
def mtl : List aJ := [(0, yX0_init, cX0_init, 5, none),
  (1, yX1_init, cX1_init, 1, none),
  (1, yX1_turnTo, cX1_turnTo, 3, none),
  (1, yX1_holds, cX1_holds, 4, (some .boolean)),
  (1, yX1_goOn, cX1_goOn, 3, (some .int)),
  (1, yX1_valueOf, cX1_valueOf, 3, (some .int)),
  (1, yX1_joined, cX1_joined, 3, (some .int)),
  (1, yX1_allWhenHold, cX1_allWhenHold, 4, (some .boolean)),
  (1, yX1_chanceOf, cX1_chanceOf, 5, (some .int)),
  (1, yX1_weightOf, cX1_weightOf, 7, (some .long)),
  (1, yX1_priorOf, cX1_priorOf, 2, (some .int)),
  (2, yX2_init, cX2_init, 2, none),
  (2, yX2_faultFound, cX2_faultFound, 1, (some .int)),
  (2, yX2_read, cX2_read, 3, (some (.object "TreacleTank$Text"))),
  (2, yX2_readClause, cX2_readClause, 5, (some .boolean)),
  (2, yX2_mayBegin, cX2_mayBegin, 2, (some .boolean)),
  (2, yX2_readHead, cX2_readHead, 2, (some .boolean)),
  (2, yX2_keepClause, cX2_keepClause, 3, none),
  (2, yX2_readNumber, cX2_readNumber, 3, (some .boolean)),
  (2, yX2_readTest, cX2_readTest, 5, (some .boolean)),
  (2, yX2_readFact, cX2_readFact, 3, (some .boolean)),
  (2, yX2_readComparison, cX2_readComparison, 4, (some .boolean)),
  (2, yX2_readValue, cX2_readValue, 2, (some .boolean)),
  (2, yX2_putStep, cX2_putStep, 2, none),
  (2, yX2_kind, cX2_kind, 1, (some .int)),
  (2, yX2_value, cX2_value, 1, (some .int)),
  (2, yX2_passes, cX2_passes, 2, (some .boolean)),
  (2, yX2_expect, cX2_expect, 2, (some .boolean)),
  (2, yX2_refuse, cX2_refuse, 3, (some .boolean)),
  (3, yX3_init, cX3_init, 1, none),
  (3, yX3_shape, cX3_shape, 4, none),
  (3, yX3_makeOf, cX3_makeOf, 4, none),
  (3, yX3_hold, cX3_hold, 3, none),
  (3, yX3_copyFrom, cX3_copyFrom, 2, none),
  (4, yX4_init, cX4_init, 2, none),
  (4, yX4_copyFrom, cX4_copyFrom, 2, none),
  (5, yX5_init, cX5_init, 2, none),
  (5, yX5_copyFrom, cX5_copyFrom, 2, none),
  (5, yX5_changeGround, cX5_changeGround, 4, (some .int)),
  (5, yX5_startWave, cX5_startWave, 6, none),
  (5, yX5_passMinutes, cX5_passMinutes, 3, (some .int)),
  (5, yX5_flow, cX5_flow, 4, none),
  (5, yX5_goOver, cX5_goOver, 6, none),
  (5, yX5_leaveStains, cX5_leaveStains, 2, none),
  (5, yX5_ofPlace, cX5_ofPlace, 3, (some .int)),
  (6, yX6_init, cX6_init, 2, none),
  (6, yX6_startAnew, cX6_startAnew, 6, none),
  (6, yX6_copyFrom, cX6_copyFrom, 3, none),
  (6, yX6_hasRing, cX6_hasRing, 2, (some .boolean)),
  (6, yX6_hasBeen, cX6_hasBeen, 2, (some .boolean)),
  (6, yX6_hasBurst, cX6_hasBurst, 1, (some .boolean)),
  (6, yX6_nextRing, cX6_nextRing, 1, (some (.object "TreacleTank$Ring"))),
  (6, yX6_raise, cX6_raise, 2, (some .int)),
  (6, yX6_addLayer, cX6_addLayer, 3, (some .int)),
  (6, yX6_drawOff, cX6_drawOff, 6, (some .int)),
  (6, yX6_changeAir, cX6_changeAir, 3, (some .int)),
  (6, yX6_passHours, cX6_passHours, 3, (some .int)),
  (6, yX6_mixHeat, cX6_mixHeat, 3, none),
  (6, yX6_workGas, cX6_workGas, 2, none),
  (6, yX6_bearOrBurst, cX6_bearOrBurst, 2, none),
  (6, yX6_seekBurst, cX6_seekBurst, 2, none),
  (6, yX6_loadOf, cX6_loadOf, 2, (some .int)),
  (6, yX6_fullLoadOf, cX6_fullLoadOf, 2, (some .int)),
  (6, yX6_steelOf, cX6_steelOf, 4, (some .int)),
  (6, yX6_plateOf, cX6_plateOf, 4, (some .int)),
  (6, yX6_bearsOf, cX6_bearsOf, 2, (some .int)),
  (6, yX6_number, cX6_number, 2, (some .int)),
  (6, yX6_ofLayer, cX6_ofLayer, 3, (some .int)),
  (6, yX6_ofRing, cX6_ofRing, 4, (some .int)),
  (6, yX6_nearestRing, cX6_nearestRing, 3, (some .int)),
  (6, yX6_isNearer, cX6_isNearer, 11, (some .boolean)),
  (6, yX6_tooWeakFor, cX6_tooWeakFor, 6, (some .int)),
  (6, yX6_feetNeeded, cX6_feetNeeded, 6, (some .int)),
  (6, yX6_coinsNeeded, cX6_coinsNeeded, 4, (some .int)),
  (6, yX6_thicknessNeeded, cX6_thicknessNeeded, 2, (some .int)),
  (6, yX6_leastThicker, cX6_leastThicker, 7, (some .int)),
  (6, yX6_tellWords, cX6_tellWords, 4, none),
  (7, yX7_init, cX7_init, 1, none),
  (7, yX7_hasRoom, cX7_hasRoom, 1, (some .boolean)),
  (7, yX7_take, cX7_take, 3, none),
  (7, yX7_cut, cX7_cut, 2, (some .boolean)),
  (7, yX7_scan, cX7_scan, 3, none),
  (7, yX7_scanToken, cX7_scanToken, 4, (some .int)),
  (7, yX7_scanNumber, cX7_scanNumber, 4, (some .int)),
  (7, yX7_scanWord, cX7_scanWord, 5, (some .int)),
  (7, yX7_spells, cX7_spells, 5, (some .boolean)),
  (7, yX7_putToken, cX7_putToken, 4, none),
  (7, yX7_isDigit, cX7_isDigit, 1, (some .boolean)),
  (7, yX7_isSmall, cX7_isSmall, 1, (some .boolean)),
  (7, yX7_kindOfSign, cX7_kindOfSign, 1, (some .int)),
  (7, yX7_wordOf, cX7_wordOf, 1, (some (.object "java/lang/String"))),
  (7, yX7_valueWordOf, cX7_valueWordOf, 1, (some (.object "java/lang/String"))),
  (8, yX8_init, cX8_init, 5, none),
  (9, yX9_init, cX9_init, 1, none),
  (9, yX9_copyFrom, cX9_copyFrom, 2, none),
  (9, yX9_ask, cX9_ask, 4, (some .int)),
  (9, yX9_leanOf, cX9_leanOf, 13, (some .int)),
  (9, yX9_commonDivisor, cX9_commonDivisor, 6, (some .int)),
  (10, yX10_init, cX10_init, 1, none),
  (10, yX10_begin, cX10_begin, 8, (some .boolean)),
  (10, yX10_ring, cX10_ring, 13, (some .int)),
  (10, yX10_pour, cX10_pour, 3, (some .int)),
  (10, yX10_draw, cX10_draw, 2, (some .int)),
  (10, yX10_air, cX10_air, 2, (some .int)),
  (10, yX10_hours, cX10_hours, 2, (some .int)),
  (10, yX10_count, cX10_count, 2, (some .int)),
  (10, yX10_layer, cX10_layer, 3, (some .int)),
  (10, yX10_told, cX10_told, 3, (some .int)),
  (10, yX10_nearest, cX10_nearest, 1, (some .int)),
  (10, yX10_feed, cX10_feed, 6, (some .int)),
  (10, yX10_end, cX10_end, 2, (some .int)),
  (10, yX10_story, cX10_story, 2, (some .int)),
  (10, yX10_rule, cX10_rule, 2, (some .int)),
  (10, yX10_fits, cX10_fits, 3, (some .int)),
  (10, yX10_trace, cX10_trace, 4, (some .int)),
  (10, yX10_chance, cX10_chance, 4, (some .int)),
  (10, yX10_weight, cX10_weight, 3, (some .long)),
  (10, yX10_odds, cX10_odds, 6, (some .int)),
  (10, yX10_made, cX10_made, 6, (some .int)),
  (10, yX10_span, cX10_span, 3, (some .int)),
  (10, yX10_trial, cX10_trial, 3, (some .int)),
  (10, yX10_needed, cX10_needed, 3, (some .int)),
  (10, yX10_more, cX10_more, 1, (some .int)),
  (10, yX10_thicker, cX10_thicker, 2, (some .int)),
  (10, yX10_look, cX10_look, 3, (some .boolean)),
  (10, yX10_owed, cX10_owed, 4, (some .int)),
  (10, yX10_ground, cX10_ground, 4, (some .int)),
  (10, yX10_wave, cX10_wave, 7, (some .boolean)),
  (10, yX10_minutes, cX10_minutes, 2, (some .int)),
  (10, yX10_place, cX10_place, 4, (some .int)),
  (10, yX10_witness, cX10_witness, 4, (some .int)),
  (10, yX10_lean, cX10_lean, 7, (some .int)),
  (10, yX10_mark, cX10_mark, 2, (some .int)),
  (10, yX10_back, cX10_back, 2, (some .int)),
  (10, yX10_areThere, cX10_areThere, 3, (some .boolean)),
  (10, yX10_timesAsSeen, cX10_timesAsSeen, 10, (some .int)),
  (10, yX10_menNamedBy, cX10_menNamedBy, 5, (some .int)),
  (10, yX10_isLate, cX10_isLate, 4, (some .boolean)),
  (10, yX10_isPlace, cX10_isPlace, 2, (some .boolean)),
  (10, yX10_isWithin, cX10_isWithin, 3, (some .boolean)),
  (11, yX11_init, cX11_init, 2, none),
  (11, yX11_in, cX11_in, 6, (some .boolean)),
  (11, yX11_begin, cX11_begin, 6, (some .boolean)),
  (11, yX11_isRing, cX11_isRing, 2, (some .boolean)),
  (11, yX11_lower, cX11_lower, 4, (some .int)),
  (11, yX11_depth, cX11_depth, 3, (some .int)),
  (11, yX11_loadBy, cX11_loadBy, 6, (some .int)),
  (11, yX11_loadOf, cX11_loadOf, 2, (some .int)),
  (11, yX11_steelOf, cX11_steelOf, 5, (some .int)),
  (11, yX11_plateBy, cX11_plateBy, 6, (some .int)),
  (11, yX11_bearsOf, cX11_bearsOf, 3, (some .int)),
  (11, yX11_stands, cX11_stands, 2, (some .boolean)),
  (11, yX11_stood, cX11_stood, 3, none),
  (11, yX11_ring, cX11_ring, 9, (some .int)),
  (11, yX11_pour, cX11_pour, 3, (some .int)),
  (11, yX11_draw, cX11_draw, 5, (some .int)),
  (11, yX11_air, cX11_air, 3, (some .int)),
  (11, yX11_hour, cX11_hour, 3, none),
  (11, yX11_hours, cX11_hours, 3, (some .int)),
  (11, yX11_count, cX11_count, 2, (some .int)),
  (11, yX11_layer, cX11_layer, 3, (some .int)),
  (11, yX11_told, cX11_told, 3, (some .int)),
  (11, yX11_isNearer, cX11_isNearer, 5, (some .boolean)),
  (11, yX11_nearest, cX11_nearest, 3, (some .int)),
  (11, yX11_feed, cX11_feed, 6, (some .int)),
  (11, yX11_put, cX11_put, 3, none),
  (11, yX11_end, cX11_end, 2, (some .int)),
  (11, yX11_wordOf, cX11_wordOf, 1, (some (.object "java/lang/String"))),
  (11, yX11_fails, cX11_fails, 3, none),
  (11, yX11_sign, cX11_sign, 1, (some .int)),
  (11, yX11_blanks, cX11_blanks, 1, none),
  (11, yX11_isDigit, cX11_isDigit, 1, (some .boolean)),
  (11, yX11_stands_, cX11_stands_, 5, (some .boolean)),
  (11, yX11_takes, cX11_takes, 3, (some .boolean)),
  (11, yX11_entry, cX11_entry, 3, none),
  (11, yX11_isCounted, cX11_isCounted, 2, none),
  (11, yX11_digits, cX11_digits, 4, (some .int)),
  (11, yX11_value, cX11_value, 3, none),
  (11, yX11_sum, cX11_sum, 2, none),
  (11, yX11_compared, cX11_compared, 3, none),
  (11, yX11_top, cX11_top, 1, (some .int)),
  (11, yX11_opens, cX11_opens, 2, none),
  (11, yX11_answers, cX11_answers, 2, none),
  (11, yX11_fact, cX11_fact, 1, (some .boolean)),
  (11, yX11_test, cX11_test, 5, none),
  (11, yX11_amount, cX11_amount, 5, (some .int)),
  (11, yX11_hasPrior, cX11_hasPrior, 4, (some .boolean)),
  (11, yX11_storyClause, cX11_storyClause, 5, none),
  (11, yX11_ifTest, cX11_ifTest, 1, none),
  (11, yX11_ruleClause, cX11_ruleClause, 4, none),
  (11, yX11_text, cX11_text, 4, (some .int)),
  (11, yX11_story, cX11_story, 1, (some .int)),
  (11, yX11_rule, cX11_rule, 1, (some .int)),
  (11, yX11_truth, cX11_truth, 1, (some .long)),
  (11, yX11_both, cX11_both, 5, (some .long)),
  (11, yX11_answer, cX11_answer, 8, (some .long)),
  (11, yX11_looks, cX11_looks, 2, none),
  (11, yX11_holds, cX11_holds, 2, (some .boolean)),
  (11, yX11_areStory, cX11_areStory, 3, (some .boolean)),
  (11, yX11_isFit, cX11_isFit, 5, (some .boolean)),
  (11, yX11_fits, cX11_fits, 3, (some .int)),
  (11, yX11_trace, cX11_trace, 4, (some .int)),
  (11, yX11_chanceOf, cX11_chanceOf, 5, (some .int)),
  (11, yX11_chance, cX11_chance, 4, (some .int)),
  (11, yX11_weighs, cX11_weighs, 7, (some .long)),
  (11, yX11_weight, cX11_weight, 3, (some .long)),
  (11, yX11_odds, cX11_odds, 6, (some .int)),
  (11, yX11_made, cX11_made, 12, (some .int)),
  (11, yX11_span, cX11_span, 3, (some .int)),
  (11, yX11_trial, cX11_trial, 5, (some .int)),
  (11, yX11_fullLoad, cX11_fullLoad, 2, (some .int)),
  (11, yX11_needed, cX11_needed, 4, (some .int)),
  (11, yX11_moreOf, cX11_moreOf, 3, (some .int)),
  (11, yX11_more, cX11_more, 4, (some .int)),
  (11, yX11_thicker, cX11_thicker, 2, (some .int)),
  (11, yX11_look, cX11_look, 3, (some .boolean)),
  (11, yX11_isAsked, cX11_isAsked, 4, (some .boolean)),
  (11, yX11_owed, cX11_owed, 5, (some .int)),
  (11, yX11_isPlace, cX11_isPlace, 2, (some .boolean)),
  (11, yX11_ground, cX11_ground, 5, (some .int)),
  (11, yX11_stains, cX11_stains, 3, none),
  (11, yX11_wave, cX11_wave, 7, (some .boolean)),
  (11, yX11_flows, cX11_flows, 7, none),
  (11, yX11_minute, cX11_minute, 3, none),
  (11, yX11_minutes, cX11_minutes, 3, (some .int)),
  (11, yX11_place, cX11_place, 5, (some .int)),
  (11, yX11_witness, cX11_witness, 4, (some .int)),
  (11, yX11_lean, cX11_lean, 15, (some .int)),
  (11, yX11_carry, cX11_carry, 3, none),
  (11, yX11_carries, cX11_carries, 2, none),
  (11, yX11_mark, cX11_mark, 2, (some .int)),
  (11, yX11_back, cX11_back, 2, (some .int)),
  (12, yL_law, cL_law, 4, (some .boolean))]
def mt (J : Nat) : aJ := mtl.getD J (0, yX0_init, cX0_init, 0, none)
def rkl : List Nat := [1, 1, 5, 4, 3, 2, 1, 5, 5, 6, 1, 1, 1, 61, 60, 1, 3, 2, 2, 0, 0, 3, 2, 1, 1, 1, 2, 2, 1, 1, 1, 1, 1, 2, 3, 4, 1, 1, 2, 2, 3, 2, 1, 1, 2, 2, 1, 3, 1, 1, 1, 2, 2, 6, 2, 5, 6, 1, 1, 5, 4, 1, 1, 1, 2, 3, 1, 1, 4, 5, 4, 4, 2, 4, 5, 3, 4, 1, 1, 1, 1, 5, 4, 2, 3, 1, 1, 1, 1, 1, 2, 1, 1, 1, 1, 1, 2, 1, 4, 2, 3, 7, 3, 6, 7, 2, 2, 5, 6, 2, 2, 62, 62, 6, 2, 6, 7, 7, 6, 5, 5, 3, 5, 6, 2, 6, 3, 3, 4, 3, 2, 3, 5, 5, 2, 1, 5, 1, 2, 1, 1, 1, 2, 2, 1, 1, 2, 3, 2, 3, 4, 5, 4, 4, 6, 2, 6, 6, 7, 2, 2, 5, 5, 6, 2, 1, 1, 1, 1, 1, 2, 2, 1, 3, 1, 2, 3, 4, 5, 6, 1, 2, 2, 7, 8, 4, 1, 10, 9, 10, 11, 12, 12, 1, 2, 3, 5, 4, 3, 6, 7, 2, 6, 7, 7, 8, 8, 7, 3, 5, 3, 4, 4, 5, 6, 2, 6, 7, 2, 3, 1, 3, 1, 2, 3, 3, 2, 2, 1, 2, 3, 3, 63]
/-- how deep a method's calls go; that of readTest, readFact by their depth -/
def rk (J : Nat) (as : List Value) : Nat := if J = 19 then (match as with
  | [_, .int x] => 55 - 2 * x.toNatClampNeg
  | _ => 0) else if J = 20 then (match as with
  | [_, .int x] => 54 - 2 * x.toNatClampNeg
  | _ => 0) else rkl.getD J 0
def ftab : List (Nat × Nat × Nat × Nat) := [(3, 34, 3, 0), (6, 93, 3, 0), (3, 7, 3, 1), (6, 103, 3, 1), (3, 13, 3, 2), (6, 176, 3, 2), (3, 16, 3, 3), (6, 143, 3, 3), (3, 19, 3, 4), (6, 131, 3, 4), (3, 22, 3, 5), (6, 140, 3, 5), (3, 25, 3, 6), (6, 134, 3, 6), (3, 28, 3, 7), (6, 150, 3, 7), (3, 31, 3, 8), (6, 164, 3, 8), (3, 48, 3, 9), (6, 100, 3, 9), (6, 11, 6, 0), (6, 17, 6, 1), (6, 21, 6, 2), (6, 35, 6, 3), (6, 76, 6, 4), (10, 255, 6, 4), (6, 24, 6, 5), (6, 39, 6, 6), (6, 42, 6, 7), (6, 45, 6, 8), (6, 48, 6, 9), (6, 51, 6, 10), (6, 54, 6, 11), (10, 213, 6, 11), (6, 57, 6, 12), (10, 187, 6, 12), (6, 60, 6, 13), (6, 63, 6, 14), (6, 66, 6, 15), (6, 69, 6, 16), (6, 28, 6, 17), (6, 31, 6, 18), (5, 9, 5, 0), (5, 15, 5, 1), (5, 18, 5, 2), (5, 21, 5, 3), (5, 24, 5, 4), (5, 33, 5, 5), (5, 37, 5, 6), (5, 41, 5, 7), (5, 44, 5, 8), (9, 9, 9, 0), (9, 15, 9, 1), (9, 18, 9, 2), (9, 27, 9, 3), (10, 117, 9, 3), (4, 12, 4, 0), (10, 60, 4, 0), (4, 21, 4, 1), (10, 223, 4, 1), (4, 28, 4, 2), (10, 113, 4, 2), (4, 32, 4, 3), (10, 169, 4, 3), (4, 36, 4, 4), (10, 205, 4, 4), (7, 11, 7, 0), (7, 15, 7, 1), (2, 129, 7, 1), (7, 18, 7, 2), (2, 135, 7, 2), (7, 21, 7, 3), (2, 132, 7, 3), (7, 24, 7, 4), (10, 122, 7, 4), (7, 28, 7, 5), (2, 126, 7, 5), (2, 13, 2, 0), (2, 19, 2, 1), (2, 23, 2, 2), (2, 34, 2, 3), (2, 37, 2, 4), (2, 71, 2, 5), (2, 40, 2, 6), (2, 27, 2, 7), (2, 87, 2, 8), (2, 90, 2, 9), (2, 43, 2, 10), (1, 11, 1, 0), (1, 17, 1, 1), (10, 12, 10, 0), (10, 16, 10, 1), (10, 23, 10, 2), (10, 32, 10, 3), (10, 39, 10, 4), (10, 45, 10, 5), (10, 49, 10, 6), (10, 52, 10, 7), (10, 106, 10, 8), (10, 110, 10, 9), (0, 7, 0, 0), (1, 53, 0, 0), (0, 13, 0, 1), (1, 61, 0, 1), (10, 275, 0, 1), (0, 16, 0, 2), (1, 64, 0, 2), (10, 280, 0, 2), (0, 19, 0, 3), (1, 26, 0, 3), (8, 18, 8, 0), (1, 47, 8, 0), (10, 271, 8, 0), (11, 156, 11, 1), (11, 212, 11, 2), (11, 160, 11, 3), (11, 163, 11, 4), (11, 166, 11, 5), (11, 169, 11, 6), (11, 172, 11, 7), (11, 175, 11, 8), (11, 178, 11, 9), (11, 181, 11, 10), (11, 7, 11, 11), (11, 184, 11, 12), (11, 13, 11, 13), (11, 16, 11, 14), (11, 19, 11, 15), (11, 22, 11, 16), (11, 26, 11, 17), (11, 29, 11, 18), (11, 32, 11, 19), (11, 35, 11, 20), (11, 38, 11, 21), (11, 41, 11, 22), (11, 44, 11, 23), (11, 47, 11, 24), (11, 50, 11, 25), (11, 53, 11, 26), (11, 238, 11, 27), (11, 276, 11, 28), (11, 273, 11, 29), (11, 301, 11, 30), (11, 304, 11, 31), (11, 339, 11, 32), (11, 307, 11, 33), (11, 336, 11, 34), (11, 56, 11, 35), (11, 60, 11, 36), (11, 63, 11, 37), (11, 66, 11, 38), (11, 69, 11, 39), (11, 72, 11, 40), (11, 75, 11, 41), (11, 78, 11, 42), (11, 81, 11, 43), (11, 84, 11, 44), (11, 87, 11, 45), (11, 90, 11, 46), (11, 94, 11, 47), (11, 97, 11, 48), (11, 100, 11, 49), (11, 103, 11, 50), (11, 475, 11, 51), (11, 478, 11, 52), (11, 481, 11, 53), (11, 470, 11, 54), (11, 106, 11, 55), (11, 109, 11, 56), (11, 112, 11, 57), (11, 115, 11, 58), (11, 118, 11, 59), (11, 121, 11, 60), (11, 235, 11, 61), (11, 124, 11, 62), (11, 127, 11, 63), (11, 130, 11, 64), (11, 133, 11, 65), (11, 136, 11, 66), (11, 139, 11, 67), (11, 507, 11, 68), (11, 504, 11, 69)]
def mtab : List (Nat × Nat × Nat × Nat × Nat) := [(12, 9, 4, 0, 98), (10, 3, 9, 0, 1200), (10, 11, 4, 0, 34), (4, 3, 9, 0, 1200), (4, 11, 4, 0, 45), (6, 3, 9, 0, 1200), (6, 34, 5, 0, 29), (3, 1, 9, 0, 1200), (4, 20, 4, 0, 36), (5, 3, 9, 0, 1200), (4, 27, 5, 0, 93), (9, 3, 9, 0, 1200), (10, 22, 5, 0, 77), (7, 3, 9, 0, 1200), (10, 29, 4, 1, 11), (2, 3, 9, 0, 1200), (10, 38, 5, 0, 1), (1, 3, 9, 0, 1200), (12, 13, 0, 5, 99), (10, 56, 2, 3, 139), (10, 64, 0, 5, 46), (12, 18, 0, 8, 100), (10, 71, 0, 0, 51), (6, 89, 0, 0, 50), (10, 75, 0, 3, 30), (10, 81, 0, 3, 31), (10, 84, 0, 2, 32), (10, 88, 0, 1, 52), (6, 96, 0, 1, 61), (6, 125, 9, 2, 1201), (12, 23, 0, 2, 101), (10, 92, 0, 2, 53), (6, 106, 0, 0, 59), (6, 115, 0, 0, 60), (6, 128, 0, 1, 65), (6, 146, 0, 2, 64), (6, 137, 0, 1, 63), (6, 109, 9, 2, 1202), (12, 28, 0, 1, 102), (10, 96, 0, 1, 54), (12, 33, 0, 1, 103), (10, 100, 0, 1, 55), (12, 37, 0, 1, 104), (10, 103, 0, 1, 56), (6, 119, 0, 0, 57), (6, 122, 0, 0, 58), (12, 41, 0, 1, 105), (10, 125, 0, 1, 66), (12, 45, 0, 2, 106), (10, 128, 0, 2, 67), (12, 49, 0, 2, 107), (10, 131, 0, 2, 68), (6, 153, 0, 1, 48), (12, 53, 0, 0, 108), (10, 134, 0, 0, 69), (6, 157, 0, 2, 70), (12, 58, 0, 5, 109), (10, 138, 0, 0, 78), (10, 142, 0, 1, 79), (12, 63, 0, 1, 110), (10, 146, 0, 1, 80), (12, 67, 0, 0, 111), (10, 150, 0, 1, 13), (2, 31, 0, 0, 81), (7, 31, 0, 1, 82), (7, 39, 2, 1, 87), (7, 43, 0, 1, 83), (7, 35, 0, 3, 86), (7, 46, 2, 1, 88), (7, 49, 0, 1, 84), (7, 55, 2, 1, 90), (7, 90, 2, 1, 91), (7, 59, 0, 3, 85), (7, 63, 9, 0, 1205), (7, 68, 9, 1, 1206), (7, 52, 2, 1, 89), (2, 47, 0, 1, 14), (2, 51, 0, 0, 24), (2, 64, 2, 2, 15), (2, 68, 0, 1, 28), (2, 74, 0, 1, 16), (2, 93, 0, 2, 18), (2, 97, 0, 0, 25), (2, 109, 3, 3, 139), (2, 60, 0, 1, 27), (2, 77, 0, 1, 26), (2, 80, 0, 1, 19), (2, 113, 0, 1, 20), (2, 119, 0, 0, 21), (2, 123, 0, 0, 22), (2, 116, 0, 1, 23), (2, 83, 0, 1, 17), (2, 100, 9, 5, 1204), (2, 106, 4, 4, 0), (0, 1, 9, 0, 1200), (2, 57, 4, 2, 92), (8, 1, 9, 0, 1200), (8, 7, 9, 2, 1202), (8, 13, 9, 2, 1201), (10, 154, 0, 0, 12), (12, 71, 0, 0, 112), (12, 75, 0, 2, 113), (10, 157, 0, 2, 134), (10, 258, 0, 1, 48), (10, 161, 0, 2, 2), (1, 20, 0, 2, 76), (10, 165, 0, 1, 7), (1, 57, 0, 1, 3), (1, 31, 0, 2, 4), (1, 35, 0, 1, 5), (1, 43, 3, 3, 139), (1, 39, 2, 3, 6), (12, 79, 0, 2, 114), (12, 83, 0, 3, 115), (10, 172, 0, 2, 8), (12, 88, 0, 2, 116), (10, 178, 0, 2, 9), (1, 67, 0, 1, 7), (1, 71, 2, 1, 10), (1, 77, 0, 2, 8), (12, 93, 0, 2, 117), (12, 97, 0, 4, 118), (10, 184, 0, 2, 135), (12, 102, 0, 2, 119), (12, 106, 0, 2, 120), (10, 190, 0, 2, 71), (12, 110, 0, 2, 121), (10, 193, 0, 2, 72), (12, 114, 0, 0, 122), (10, 196, 0, 0, 73), (6, 161, 0, 1, 75), (6, 171, 0, 1, 62), (12, 118, 0, 1, 123), (10, 199, 0, 1, 74), (6, 167, 0, 0, 73), (12, 122, 0, 2, 124), (10, 202, 0, 1, 49), (10, 208, 9, 2, 1201), (12, 127, 0, 0, 125), (10, 216, 0, 1, 136), (10, 282, 0, 2, 137), (10, 285, 0, 1, 3), (12, 131, 0, 3, 126), (10, 220, 2, 2, 138), (10, 227, 0, 2, 38), (5, 47, 3, 3, 139), (12, 135, 0, 5, 127), (10, 233, 0, 4, 39), (5, 51, 0, 0, 43), (5, 68, 9, 2, 1201), (12, 139, 0, 1, 128), (10, 237, 0, 1, 40), (5, 54, 0, 1, 41), (5, 58, 0, 3, 42), (5, 62, 9, 2, 1202), (12, 143, 0, 3, 129), (10, 240, 0, 2, 44), (12, 147, 0, 3, 130), (10, 243, 0, 3, 95), (12, 151, 0, 5, 131), (10, 247, 0, 5, 96), (9, 31, 3, 3, 139), (9, 35, 9, 1, 1203), (9, 41, 2, 2, 97), (12, 155, 0, 1, 132), (10, 251, 0, 1, 35), (4, 39, 0, 1, 47), (6, 72, 0, 5, 46), (6, 79, 9, 5, 1204), (6, 85, 0, 1, 33), (3, 37, 0, 3, 30), (3, 41, 0, 3, 31), (3, 44, 0, 2, 32), (4, 43, 0, 1, 37), (5, 27, 9, 5, 1204), (4, 46, 0, 1, 94), (9, 21, 9, 5, 1204), (4, 49, 9, 5, 1204), (12, 159, 0, 1, 133), (12, 12, 4, 0, 140), (11, 1, 9, 0, 1200), (12, 17, 0, 5, 142), (11, 148, 2, 3, 141), (12, 22, 0, 8, 153), (11, 206, 0, 1, 147), (11, 191, 0, 0, 145), (11, 195, 0, 4, 146), (11, 187, 0, 1, 144), (12, 27, 0, 2, 154), (11, 223, 0, 0, 151), (11, 209, 0, 1, 150), (11, 202, 0, 2, 149), (11, 199, 0, 1, 148), (11, 227, 0, 0, 152), (12, 32, 0, 1, 155), (12, 36, 0, 1, 156), (12, 40, 0, 1, 158), (11, 232, 0, 0, 157), (12, 44, 0, 1, 159), (12, 48, 0, 2, 160), (12, 52, 0, 2, 161), (11, 241, 0, 1, 143), (12, 57, 0, 0, 163), (11, 245, 0, 2, 162), (12, 62, 0, 5, 164), (11, 249, 0, 1, 165), (12, 66, 0, 1, 166), (12, 70, 0, 0, 191), (11, 400, 0, 1, 190), (11, 295, 0, 0, 170), (11, 279, 0, 0, 169), (11, 394, 0, 1, 187), (11, 298, 0, 1, 172), (11, 286, 9, 0, 1205), (11, 291, 9, 1, 1206), (11, 310, 0, 2, 168), (11, 369, 0, 1, 186), (11, 372, 0, 2, 185), (11, 317, 0, 1, 176), (11, 314, 0, 0, 171), (11, 375, 0, 0, 184), (11, 353, 0, 0, 183), (11, 347, 0, 1, 181), (11, 350, 0, 0, 179), (11, 333, 0, 0, 178), (11, 330, 0, 0, 177), (11, 320, 0, 1, 175), (11, 323, 0, 2, 174), (11, 326, 2, 1, 167), (11, 356, 0, 1, 182), (11, 342, 0, 0, 180), (11, 382, 0, 0, 188), (11, 387, 0, 1, 173), (11, 397, 0, 1, 189), (12, 74, 0, 0, 192), (12, 78, 0, 2, 200), (11, 421, 0, 2, 198), (11, 424, 0, 2, 199), (11, 415, 0, 1, 196), (11, 418, 0, 1, 197), (11, 411, 0, 3, 195), (11, 407, 2, 3, 194), (11, 403, 2, 1, 193), (12, 82, 0, 2, 201), (12, 87, 0, 3, 203), (11, 431, 0, 3, 202), (12, 92, 0, 2, 205), (11, 439, 0, 2, 204), (12, 96, 0, 2, 206), (12, 101, 0, 4, 207), (12, 105, 0, 2, 208), (12, 109, 0, 2, 209), (12, 113, 0, 2, 211), (11, 453, 0, 1, 210), (12, 117, 0, 0, 213), (11, 456, 0, 1, 212), (12, 121, 0, 1, 214), (11, 459, 0, 0, 213), (12, 126, 0, 2, 215), (12, 130, 0, 0, 217), (11, 462, 0, 1, 216), (12, 134, 0, 3, 219), (11, 467, 2, 2, 218), (12, 138, 0, 5, 221), (11, 484, 0, 0, 220), (12, 142, 0, 1, 224), (11, 493, 0, 0, 223), (11, 487, 0, 3, 222), (12, 146, 0, 3, 225), (12, 150, 0, 3, 226), (12, 154, 0, 5, 227), (12, 158, 0, 1, 230), (11, 514, 0, 1, 229), (11, 510, 0, 1, 228), (12, 162, 0, 1, 231)]
def ctab : List (Nat × Nat × Nat) := [(12, 7, 10), (10, 9, 4), (4, 9, 6), (6, 9, 3), (4, 18, 5), (4, 25, 9), (10, 20, 7), (10, 27, 2), (2, 11, 0), (10, 36, 1), (10, 43, 8), (2, 55, 8), (8, 16, 0), (12, 10, 11)]
def itab : List (Nat × Nat × Int32) := [(10, 70, 9999999), (6, 118, 99999), (10, 232, 99999), (11, 231, 99999)]
def jtab : List (Nat × Nat × Int64) := [(10, 176, -1), (1, 75, 1000000), (1, 81, 1000), (10, 182, 1000000), (10, 261, 1103515245), (10, 263, 12345), (10, 265, 2147483648), (10, 267, 65536), (10, 269, 1000), (11, 146, 99), (11, 152, 999), (11, 154, 199), (11, 215, 20), (11, 217, -50), (11, 219, 9), (11, 221, 9999999), (11, 229, 500), (11, 282, 48), (11, 284, 57), (11, 378, 65), (11, 380, 80), (11, 427, 15), (11, 429, -1), (11, 435, 1000000), (11, 437, 1000), (11, 443, 200), (11, 445, 1103515245), (11, 447, 12345), (11, 449, 2147483648), (11, 451, 65536), (11, 465, 11), (11, 473, 99999), (11, 491, 60), (11, 496, 3), (11, 498, 4), (11, 500, 255), (11, 502, 7)]
def stab : List (Nat × Nat × Nat) := [(7, 72, 0), (7, 74, 1), (7, 76, 2), (7, 78, 3), (7, 80, 4), (7, 82, 5), (7, 84, 6), (7, 86, 7), (7, 88, 8), (7, 93, 9), (7, 95, 10), (7, 97, 11), (7, 99, 12), (7, 101, 13), (7, 103, 14), (7, 105, 15), (7, 107, 16), (7, 109, 17), (7, 111, 18), (7, 113, 19), (7, 115, 20), (7, 117, 21), (11, 363, 0), (11, 365, 1), (11, 367, 2), (11, 345, 6), (11, 253, 9), (11, 254, 10), (11, 255, 11), (11, 256, 12), (11, 258, 13), (11, 260, 14), (11, 261, 15), (11, 263, 16), (11, 265, 17), (11, 267, 18), (11, 268, 19), (11, 269, 20), (11, 271, 21), (11, 359, 7), (11, 361, 8), (11, 385, 5), (11, 390, 3), (11, 392, 4)]
def pk {α : Type} (t : List (Nat × Nat × α)) (a b : Nat) : Option α := (t.find? (fun e => e.1 == a && e.2.1 == b)).map (fun e => e.2.2)
theorem mt0 : mt 0 = (0, yX0_init, cX0_init, 5, none) := rfl
theorem mt1 : mt 1 = (1, yX1_init, cX1_init, 1, none) := rfl
theorem mt2 : mt 2 = (1, yX1_turnTo, cX1_turnTo, 3, none) := rfl
theorem mt3 : mt 3 = (1, yX1_holds, cX1_holds, 4, (some .boolean)) := rfl
theorem mt4 : mt 4 = (1, yX1_goOn, cX1_goOn, 3, (some .int)) := rfl
theorem mt5 : mt 5 = (1, yX1_valueOf, cX1_valueOf, 3, (some .int)) := rfl
theorem mt6 : mt 6 = (1, yX1_joined, cX1_joined, 3, (some .int)) := rfl
theorem mt7 : mt 7 = (1, yX1_allWhenHold, cX1_allWhenHold, 4, (some .boolean)) := rfl
theorem mt8 : mt 8 = (1, yX1_chanceOf, cX1_chanceOf, 5, (some .int)) := rfl
theorem mt9 : mt 9 = (1, yX1_weightOf, cX1_weightOf, 7, (some .long)) := rfl
theorem mt10 : mt 10 = (1, yX1_priorOf, cX1_priorOf, 2, (some .int)) := rfl
theorem mt11 : mt 11 = (2, yX2_init, cX2_init, 2, none) := rfl
theorem mt12 : mt 12 = (2, yX2_faultFound, cX2_faultFound, 1, (some .int)) := rfl
theorem mt13 : mt 13 = (2, yX2_read, cX2_read, 3, (some (.object "TreacleTank$Text"))) := rfl
theorem mt14 : mt 14 = (2, yX2_readClause, cX2_readClause, 5, (some .boolean)) := rfl
theorem mt15 : mt 15 = (2, yX2_mayBegin, cX2_mayBegin, 2, (some .boolean)) := rfl
theorem mt16 : mt 16 = (2, yX2_readHead, cX2_readHead, 2, (some .boolean)) := rfl
theorem mt17 : mt 17 = (2, yX2_keepClause, cX2_keepClause, 3, none) := rfl
theorem mt18 : mt 18 = (2, yX2_readNumber, cX2_readNumber, 3, (some .boolean)) := rfl
theorem mt19 : mt 19 = (2, yX2_readTest, cX2_readTest, 5, (some .boolean)) := rfl
theorem mt20 : mt 20 = (2, yX2_readFact, cX2_readFact, 3, (some .boolean)) := rfl
theorem mt21 : mt 21 = (2, yX2_readComparison, cX2_readComparison, 4, (some .boolean)) := rfl
theorem mt22 : mt 22 = (2, yX2_readValue, cX2_readValue, 2, (some .boolean)) := rfl
theorem mt23 : mt 23 = (2, yX2_putStep, cX2_putStep, 2, none) := rfl
theorem mt24 : mt 24 = (2, yX2_kind, cX2_kind, 1, (some .int)) := rfl
theorem mt25 : mt 25 = (2, yX2_value, cX2_value, 1, (some .int)) := rfl
theorem mt26 : mt 26 = (2, yX2_passes, cX2_passes, 2, (some .boolean)) := rfl
theorem mt27 : mt 27 = (2, yX2_expect, cX2_expect, 2, (some .boolean)) := rfl
theorem mt28 : mt 28 = (2, yX2_refuse, cX2_refuse, 3, (some .boolean)) := rfl
theorem mt29 : mt 29 = (3, yX3_init, cX3_init, 1, none) := rfl
theorem mt30 : mt 30 = (3, yX3_shape, cX3_shape, 4, none) := rfl
theorem mt31 : mt 31 = (3, yX3_makeOf, cX3_makeOf, 4, none) := rfl
theorem mt32 : mt 32 = (3, yX3_hold, cX3_hold, 3, none) := rfl
theorem mt33 : mt 33 = (3, yX3_copyFrom, cX3_copyFrom, 2, none) := rfl
theorem mt34 : mt 34 = (4, yX4_init, cX4_init, 2, none) := rfl
theorem mt35 : mt 35 = (4, yX4_copyFrom, cX4_copyFrom, 2, none) := rfl
theorem mt36 : mt 36 = (5, yX5_init, cX5_init, 2, none) := rfl
theorem mt37 : mt 37 = (5, yX5_copyFrom, cX5_copyFrom, 2, none) := rfl
theorem mt38 : mt 38 = (5, yX5_changeGround, cX5_changeGround, 4, (some .int)) := rfl
theorem mt39 : mt 39 = (5, yX5_startWave, cX5_startWave, 6, none) := rfl
theorem mt40 : mt 40 = (5, yX5_passMinutes, cX5_passMinutes, 3, (some .int)) := rfl
theorem mt41 : mt 41 = (5, yX5_flow, cX5_flow, 4, none) := rfl
theorem mt42 : mt 42 = (5, yX5_goOver, cX5_goOver, 6, none) := rfl
theorem mt43 : mt 43 = (5, yX5_leaveStains, cX5_leaveStains, 2, none) := rfl
theorem mt44 : mt 44 = (5, yX5_ofPlace, cX5_ofPlace, 3, (some .int)) := rfl
theorem mt45 : mt 45 = (6, yX6_init, cX6_init, 2, none) := rfl
theorem mt46 : mt 46 = (6, yX6_startAnew, cX6_startAnew, 6, none) := rfl
theorem mt47 : mt 47 = (6, yX6_copyFrom, cX6_copyFrom, 3, none) := rfl
theorem mt48 : mt 48 = (6, yX6_hasRing, cX6_hasRing, 2, (some .boolean)) := rfl
theorem mt49 : mt 49 = (6, yX6_hasBeen, cX6_hasBeen, 2, (some .boolean)) := rfl
theorem mt50 : mt 50 = (6, yX6_hasBurst, cX6_hasBurst, 1, (some .boolean)) := rfl
theorem mt51 : mt 51 = (6, yX6_nextRing, cX6_nextRing, 1, (some (.object "TreacleTank$Ring"))) := rfl
theorem mt52 : mt 52 = (6, yX6_raise, cX6_raise, 2, (some .int)) := rfl
theorem mt53 : mt 53 = (6, yX6_addLayer, cX6_addLayer, 3, (some .int)) := rfl
theorem mt54 : mt 54 = (6, yX6_drawOff, cX6_drawOff, 6, (some .int)) := rfl
theorem mt55 : mt 55 = (6, yX6_changeAir, cX6_changeAir, 3, (some .int)) := rfl
theorem mt56 : mt 56 = (6, yX6_passHours, cX6_passHours, 3, (some .int)) := rfl
theorem mt57 : mt 57 = (6, yX6_mixHeat, cX6_mixHeat, 3, none) := rfl
theorem mt58 : mt 58 = (6, yX6_workGas, cX6_workGas, 2, none) := rfl
theorem mt59 : mt 59 = (6, yX6_bearOrBurst, cX6_bearOrBurst, 2, none) := rfl
theorem mt60 : mt 60 = (6, yX6_seekBurst, cX6_seekBurst, 2, none) := rfl
theorem mt61 : mt 61 = (6, yX6_loadOf, cX6_loadOf, 2, (some .int)) := rfl
theorem mt62 : mt 62 = (6, yX6_fullLoadOf, cX6_fullLoadOf, 2, (some .int)) := rfl
theorem mt63 : mt 63 = (6, yX6_steelOf, cX6_steelOf, 4, (some .int)) := rfl
theorem mt64 : mt 64 = (6, yX6_plateOf, cX6_plateOf, 4, (some .int)) := rfl
theorem mt65 : mt 65 = (6, yX6_bearsOf, cX6_bearsOf, 2, (some .int)) := rfl
theorem mt66 : mt 66 = (6, yX6_number, cX6_number, 2, (some .int)) := rfl
theorem mt67 : mt 67 = (6, yX6_ofLayer, cX6_ofLayer, 3, (some .int)) := rfl
theorem mt68 : mt 68 = (6, yX6_ofRing, cX6_ofRing, 4, (some .int)) := rfl
theorem mt69 : mt 69 = (6, yX6_nearestRing, cX6_nearestRing, 3, (some .int)) := rfl
theorem mt70 : mt 70 = (6, yX6_isNearer, cX6_isNearer, 11, (some .boolean)) := rfl
theorem mt71 : mt 71 = (6, yX6_tooWeakFor, cX6_tooWeakFor, 6, (some .int)) := rfl
theorem mt72 : mt 72 = (6, yX6_feetNeeded, cX6_feetNeeded, 6, (some .int)) := rfl
theorem mt73 : mt 73 = (6, yX6_coinsNeeded, cX6_coinsNeeded, 4, (some .int)) := rfl
theorem mt74 : mt 74 = (6, yX6_thicknessNeeded, cX6_thicknessNeeded, 2, (some .int)) := rfl
theorem mt75 : mt 75 = (6, yX6_leastThicker, cX6_leastThicker, 7, (some .int)) := rfl
theorem mt76 : mt 76 = (6, yX6_tellWords, cX6_tellWords, 4, none) := rfl
theorem mt77 : mt 77 = (7, yX7_init, cX7_init, 1, none) := rfl
theorem mt78 : mt 78 = (7, yX7_hasRoom, cX7_hasRoom, 1, (some .boolean)) := rfl
theorem mt79 : mt 79 = (7, yX7_take, cX7_take, 3, none) := rfl
theorem mt80 : mt 80 = (7, yX7_cut, cX7_cut, 2, (some .boolean)) := rfl
theorem mt81 : mt 81 = (7, yX7_scan, cX7_scan, 3, none) := rfl
theorem mt82 : mt 82 = (7, yX7_scanToken, cX7_scanToken, 4, (some .int)) := rfl
theorem mt83 : mt 83 = (7, yX7_scanNumber, cX7_scanNumber, 4, (some .int)) := rfl
theorem mt84 : mt 84 = (7, yX7_scanWord, cX7_scanWord, 5, (some .int)) := rfl
theorem mt85 : mt 85 = (7, yX7_spells, cX7_spells, 5, (some .boolean)) := rfl
theorem mt86 : mt 86 = (7, yX7_putToken, cX7_putToken, 4, none) := rfl
theorem mt87 : mt 87 = (7, yX7_isDigit, cX7_isDigit, 1, (some .boolean)) := rfl
theorem mt88 : mt 88 = (7, yX7_isSmall, cX7_isSmall, 1, (some .boolean)) := rfl
theorem mt89 : mt 89 = (7, yX7_kindOfSign, cX7_kindOfSign, 1, (some .int)) := rfl
theorem mt90 : mt 90 = (7, yX7_wordOf, cX7_wordOf, 1, (some (.object "java/lang/String"))) := rfl
theorem mt91 : mt 91 = (7, yX7_valueWordOf, cX7_valueWordOf, 1, (some (.object "java/lang/String"))) := rfl
theorem mt92 : mt 92 = (8, yX8_init, cX8_init, 5, none) := rfl
theorem mt93 : mt 93 = (9, yX9_init, cX9_init, 1, none) := rfl
theorem mt94 : mt 94 = (9, yX9_copyFrom, cX9_copyFrom, 2, none) := rfl
theorem mt95 : mt 95 = (9, yX9_ask, cX9_ask, 4, (some .int)) := rfl
theorem mt96 : mt 96 = (9, yX9_leanOf, cX9_leanOf, 13, (some .int)) := rfl
theorem mt97 : mt 97 = (9, yX9_commonDivisor, cX9_commonDivisor, 6, (some .int)) := rfl
theorem mt98 : mt 98 = (10, yX10_init, cX10_init, 1, none) := rfl
theorem mt99 : mt 99 = (10, yX10_begin, cX10_begin, 8, (some .boolean)) := rfl
theorem mt100 : mt 100 = (10, yX10_ring, cX10_ring, 13, (some .int)) := rfl
theorem mt101 : mt 101 = (10, yX10_pour, cX10_pour, 3, (some .int)) := rfl
theorem mt102 : mt 102 = (10, yX10_draw, cX10_draw, 2, (some .int)) := rfl
theorem mt103 : mt 103 = (10, yX10_air, cX10_air, 2, (some .int)) := rfl
theorem mt104 : mt 104 = (10, yX10_hours, cX10_hours, 2, (some .int)) := rfl
theorem mt105 : mt 105 = (10, yX10_count, cX10_count, 2, (some .int)) := rfl
theorem mt106 : mt 106 = (10, yX10_layer, cX10_layer, 3, (some .int)) := rfl
theorem mt107 : mt 107 = (10, yX10_told, cX10_told, 3, (some .int)) := rfl
theorem mt108 : mt 108 = (10, yX10_nearest, cX10_nearest, 1, (some .int)) := rfl
theorem mt109 : mt 109 = (10, yX10_feed, cX10_feed, 6, (some .int)) := rfl
theorem mt110 : mt 110 = (10, yX10_end, cX10_end, 2, (some .int)) := rfl
theorem mt111 : mt 111 = (10, yX10_story, cX10_story, 2, (some .int)) := rfl
theorem mt112 : mt 112 = (10, yX10_rule, cX10_rule, 2, (some .int)) := rfl
theorem mt113 : mt 113 = (10, yX10_fits, cX10_fits, 3, (some .int)) := rfl
theorem mt114 : mt 114 = (10, yX10_trace, cX10_trace, 4, (some .int)) := rfl
theorem mt115 : mt 115 = (10, yX10_chance, cX10_chance, 4, (some .int)) := rfl
theorem mt116 : mt 116 = (10, yX10_weight, cX10_weight, 3, (some .long)) := rfl
theorem mt117 : mt 117 = (10, yX10_odds, cX10_odds, 6, (some .int)) := rfl
theorem mt118 : mt 118 = (10, yX10_made, cX10_made, 6, (some .int)) := rfl
theorem mt119 : mt 119 = (10, yX10_span, cX10_span, 3, (some .int)) := rfl
theorem mt120 : mt 120 = (10, yX10_trial, cX10_trial, 3, (some .int)) := rfl
theorem mt121 : mt 121 = (10, yX10_needed, cX10_needed, 3, (some .int)) := rfl
theorem mt122 : mt 122 = (10, yX10_more, cX10_more, 1, (some .int)) := rfl
theorem mt123 : mt 123 = (10, yX10_thicker, cX10_thicker, 2, (some .int)) := rfl
theorem mt124 : mt 124 = (10, yX10_look, cX10_look, 3, (some .boolean)) := rfl
theorem mt125 : mt 125 = (10, yX10_owed, cX10_owed, 4, (some .int)) := rfl
theorem mt126 : mt 126 = (10, yX10_ground, cX10_ground, 4, (some .int)) := rfl
theorem mt127 : mt 127 = (10, yX10_wave, cX10_wave, 7, (some .boolean)) := rfl
theorem mt128 : mt 128 = (10, yX10_minutes, cX10_minutes, 2, (some .int)) := rfl
theorem mt129 : mt 129 = (10, yX10_place, cX10_place, 4, (some .int)) := rfl
theorem mt130 : mt 130 = (10, yX10_witness, cX10_witness, 4, (some .int)) := rfl
theorem mt131 : mt 131 = (10, yX10_lean, cX10_lean, 7, (some .int)) := rfl
theorem mt132 : mt 132 = (10, yX10_mark, cX10_mark, 2, (some .int)) := rfl
theorem mt133 : mt 133 = (10, yX10_back, cX10_back, 2, (some .int)) := rfl
theorem mt134 : mt 134 = (10, yX10_areThere, cX10_areThere, 3, (some .boolean)) := rfl
theorem mt135 : mt 135 = (10, yX10_timesAsSeen, cX10_timesAsSeen, 10, (some .int)) := rfl
theorem mt136 : mt 136 = (10, yX10_menNamedBy, cX10_menNamedBy, 5, (some .int)) := rfl
theorem mt137 : mt 137 = (10, yX10_isLate, cX10_isLate, 4, (some .boolean)) := rfl
theorem mt138 : mt 138 = (10, yX10_isPlace, cX10_isPlace, 2, (some .boolean)) := rfl
theorem mt139 : mt 139 = (10, yX10_isWithin, cX10_isWithin, 3, (some .boolean)) := rfl
theorem mt140 : mt 140 = (11, yX11_init, cX11_init, 2, none) := rfl
theorem mt141 : mt 141 = (11, yX11_in, cX11_in, 6, (some .boolean)) := rfl
theorem mt142 : mt 142 = (11, yX11_begin, cX11_begin, 6, (some .boolean)) := rfl
theorem mt143 : mt 143 = (11, yX11_isRing, cX11_isRing, 2, (some .boolean)) := rfl
theorem mt144 : mt 144 = (11, yX11_lower, cX11_lower, 4, (some .int)) := rfl
theorem mt145 : mt 145 = (11, yX11_depth, cX11_depth, 3, (some .int)) := rfl
theorem mt146 : mt 146 = (11, yX11_loadBy, cX11_loadBy, 6, (some .int)) := rfl
theorem mt147 : mt 147 = (11, yX11_loadOf, cX11_loadOf, 2, (some .int)) := rfl
theorem mt148 : mt 148 = (11, yX11_steelOf, cX11_steelOf, 5, (some .int)) := rfl
theorem mt149 : mt 149 = (11, yX11_plateBy, cX11_plateBy, 6, (some .int)) := rfl
theorem mt150 : mt 150 = (11, yX11_bearsOf, cX11_bearsOf, 3, (some .int)) := rfl
theorem mt151 : mt 151 = (11, yX11_stands, cX11_stands, 2, (some .boolean)) := rfl
theorem mt152 : mt 152 = (11, yX11_stood, cX11_stood, 3, none) := rfl
theorem mt153 : mt 153 = (11, yX11_ring, cX11_ring, 9, (some .int)) := rfl
theorem mt154 : mt 154 = (11, yX11_pour, cX11_pour, 3, (some .int)) := rfl
theorem mt155 : mt 155 = (11, yX11_draw, cX11_draw, 5, (some .int)) := rfl
theorem mt156 : mt 156 = (11, yX11_air, cX11_air, 3, (some .int)) := rfl
theorem mt157 : mt 157 = (11, yX11_hour, cX11_hour, 3, none) := rfl
theorem mt158 : mt 158 = (11, yX11_hours, cX11_hours, 3, (some .int)) := rfl
theorem mt159 : mt 159 = (11, yX11_count, cX11_count, 2, (some .int)) := rfl
theorem mt160 : mt 160 = (11, yX11_layer, cX11_layer, 3, (some .int)) := rfl
theorem mt161 : mt 161 = (11, yX11_told, cX11_told, 3, (some .int)) := rfl
theorem mt162 : mt 162 = (11, yX11_isNearer, cX11_isNearer, 5, (some .boolean)) := rfl
theorem mt163 : mt 163 = (11, yX11_nearest, cX11_nearest, 3, (some .int)) := rfl
theorem mt164 : mt 164 = (11, yX11_feed, cX11_feed, 6, (some .int)) := rfl
theorem mt165 : mt 165 = (11, yX11_put, cX11_put, 3, none) := rfl
theorem mt166 : mt 166 = (11, yX11_end, cX11_end, 2, (some .int)) := rfl
theorem mt167 : mt 167 = (11, yX11_wordOf, cX11_wordOf, 1, (some (.object "java/lang/String"))) := rfl
theorem mt168 : mt 168 = (11, yX11_fails, cX11_fails, 3, none) := rfl
theorem mt169 : mt 169 = (11, yX11_sign, cX11_sign, 1, (some .int)) := rfl
theorem mt170 : mt 170 = (11, yX11_blanks, cX11_blanks, 1, none) := rfl
theorem mt171 : mt 171 = (11, yX11_isDigit, cX11_isDigit, 1, (some .boolean)) := rfl
theorem mt172 : mt 172 = (11, yX11_stands_, cX11_stands_, 5, (some .boolean)) := rfl
theorem mt173 : mt 173 = (11, yX11_takes, cX11_takes, 3, (some .boolean)) := rfl
theorem mt174 : mt 174 = (11, yX11_entry, cX11_entry, 3, none) := rfl
theorem mt175 : mt 175 = (11, yX11_isCounted, cX11_isCounted, 2, none) := rfl
theorem mt176 : mt 176 = (11, yX11_digits, cX11_digits, 4, (some .int)) := rfl
theorem mt177 : mt 177 = (11, yX11_value, cX11_value, 3, none) := rfl
theorem mt178 : mt 178 = (11, yX11_sum, cX11_sum, 2, none) := rfl
theorem mt179 : mt 179 = (11, yX11_compared, cX11_compared, 3, none) := rfl
theorem mt180 : mt 180 = (11, yX11_top, cX11_top, 1, (some .int)) := rfl
theorem mt181 : mt 181 = (11, yX11_opens, cX11_opens, 2, none) := rfl
theorem mt182 : mt 182 = (11, yX11_answers, cX11_answers, 2, none) := rfl
theorem mt183 : mt 183 = (11, yX11_fact, cX11_fact, 1, (some .boolean)) := rfl
theorem mt184 : mt 184 = (11, yX11_test, cX11_test, 5, none) := rfl
theorem mt185 : mt 185 = (11, yX11_amount, cX11_amount, 5, (some .int)) := rfl
theorem mt186 : mt 186 = (11, yX11_hasPrior, cX11_hasPrior, 4, (some .boolean)) := rfl
theorem mt187 : mt 187 = (11, yX11_storyClause, cX11_storyClause, 5, none) := rfl
theorem mt188 : mt 188 = (11, yX11_ifTest, cX11_ifTest, 1, none) := rfl
theorem mt189 : mt 189 = (11, yX11_ruleClause, cX11_ruleClause, 4, none) := rfl
theorem mt190 : mt 190 = (11, yX11_text, cX11_text, 4, (some .int)) := rfl
theorem mt191 : mt 191 = (11, yX11_story, cX11_story, 1, (some .int)) := rfl
theorem mt192 : mt 192 = (11, yX11_rule, cX11_rule, 1, (some .int)) := rfl
theorem mt193 : mt 193 = (11, yX11_truth, cX11_truth, 1, (some .long)) := rfl
theorem mt194 : mt 194 = (11, yX11_both, cX11_both, 5, (some .long)) := rfl
theorem mt195 : mt 195 = (11, yX11_answer, cX11_answer, 8, (some .long)) := rfl
theorem mt196 : mt 196 = (11, yX11_looks, cX11_looks, 2, none) := rfl
theorem mt197 : mt 197 = (11, yX11_holds, cX11_holds, 2, (some .boolean)) := rfl
theorem mt198 : mt 198 = (11, yX11_areStory, cX11_areStory, 3, (some .boolean)) := rfl
theorem mt199 : mt 199 = (11, yX11_isFit, cX11_isFit, 5, (some .boolean)) := rfl
theorem mt200 : mt 200 = (11, yX11_fits, cX11_fits, 3, (some .int)) := rfl
theorem mt201 : mt 201 = (11, yX11_trace, cX11_trace, 4, (some .int)) := rfl
theorem mt202 : mt 202 = (11, yX11_chanceOf, cX11_chanceOf, 5, (some .int)) := rfl
theorem mt203 : mt 203 = (11, yX11_chance, cX11_chance, 4, (some .int)) := rfl
theorem mt204 : mt 204 = (11, yX11_weighs, cX11_weighs, 7, (some .long)) := rfl
theorem mt205 : mt 205 = (11, yX11_weight, cX11_weight, 3, (some .long)) := rfl
theorem mt206 : mt 206 = (11, yX11_odds, cX11_odds, 6, (some .int)) := rfl
theorem mt207 : mt 207 = (11, yX11_made, cX11_made, 12, (some .int)) := rfl
theorem mt208 : mt 208 = (11, yX11_span, cX11_span, 3, (some .int)) := rfl
theorem mt209 : mt 209 = (11, yX11_trial, cX11_trial, 5, (some .int)) := rfl
theorem mt210 : mt 210 = (11, yX11_fullLoad, cX11_fullLoad, 2, (some .int)) := rfl
theorem mt211 : mt 211 = (11, yX11_needed, cX11_needed, 4, (some .int)) := rfl
theorem mt212 : mt 212 = (11, yX11_moreOf, cX11_moreOf, 3, (some .int)) := rfl
theorem mt213 : mt 213 = (11, yX11_more, cX11_more, 4, (some .int)) := rfl
theorem mt214 : mt 214 = (11, yX11_thicker, cX11_thicker, 2, (some .int)) := rfl
theorem mt215 : mt 215 = (11, yX11_look, cX11_look, 3, (some .boolean)) := rfl
theorem mt216 : mt 216 = (11, yX11_isAsked, cX11_isAsked, 4, (some .boolean)) := rfl
theorem mt217 : mt 217 = (11, yX11_owed, cX11_owed, 5, (some .int)) := rfl
theorem mt218 : mt 218 = (11, yX11_isPlace, cX11_isPlace, 2, (some .boolean)) := rfl
theorem mt219 : mt 219 = (11, yX11_ground, cX11_ground, 5, (some .int)) := rfl
theorem mt220 : mt 220 = (11, yX11_stains, cX11_stains, 3, none) := rfl
theorem mt221 : mt 221 = (11, yX11_wave, cX11_wave, 7, (some .boolean)) := rfl
theorem mt222 : mt 222 = (11, yX11_flows, cX11_flows, 7, none) := rfl
theorem mt223 : mt 223 = (11, yX11_minute, cX11_minute, 3, none) := rfl
theorem mt224 : mt 224 = (11, yX11_minutes, cX11_minutes, 3, (some .int)) := rfl
theorem mt225 : mt 225 = (11, yX11_place, cX11_place, 5, (some .int)) := rfl
theorem mt226 : mt 226 = (11, yX11_witness, cX11_witness, 4, (some .int)) := rfl
theorem mt227 : mt 227 = (11, yX11_lean, cX11_lean, 15, (some .int)) := rfl
theorem mt228 : mt 228 = (11, yX11_carry, cX11_carry, 3, none) := rfl
theorem mt229 : mt 229 = (11, yX11_carries, cX11_carries, 2, none) := rfl
theorem mt230 : mt 230 = (11, yX11_mark, cX11_mark, 2, (some .int)) := rfl
theorem mt231 : mt 231 = (11, yX11_back, cX11_back, 2, (some .int)) := rfl
theorem mt232 : mt 232 = (12, yL_law, cL_law, 4, (some .boolean)) := rfl
theorem f3_34 : pk ftab 3 34 = some (3, 0) := by decide +kernel
theorem f6_93 : pk ftab 6 93 = some (3, 0) := by decide +kernel
theorem f3_7 : pk ftab 3 7 = some (3, 1) := by decide +kernel
theorem f6_103 : pk ftab 6 103 = some (3, 1) := by decide +kernel
theorem f3_13 : pk ftab 3 13 = some (3, 2) := by decide +kernel
theorem f6_176 : pk ftab 6 176 = some (3, 2) := by decide +kernel
theorem f3_16 : pk ftab 3 16 = some (3, 3) := by decide +kernel
theorem f6_143 : pk ftab 6 143 = some (3, 3) := by decide +kernel
theorem f3_19 : pk ftab 3 19 = some (3, 4) := by decide +kernel
theorem f6_131 : pk ftab 6 131 = some (3, 4) := by decide +kernel
theorem f3_22 : pk ftab 3 22 = some (3, 5) := by decide +kernel
theorem f6_140 : pk ftab 6 140 = some (3, 5) := by decide +kernel
theorem f3_25 : pk ftab 3 25 = some (3, 6) := by decide +kernel
theorem f6_134 : pk ftab 6 134 = some (3, 6) := by decide +kernel
theorem f3_28 : pk ftab 3 28 = some (3, 7) := by decide +kernel
theorem f6_150 : pk ftab 6 150 = some (3, 7) := by decide +kernel
theorem f3_31 : pk ftab 3 31 = some (3, 8) := by decide +kernel
theorem f6_164 : pk ftab 6 164 = some (3, 8) := by decide +kernel
theorem f3_48 : pk ftab 3 48 = some (3, 9) := by decide +kernel
theorem f6_100 : pk ftab 6 100 = some (3, 9) := by decide +kernel
theorem f6_11 : pk ftab 6 11 = some (6, 0) := by decide +kernel
theorem f6_17 : pk ftab 6 17 = some (6, 1) := by decide +kernel
theorem f6_21 : pk ftab 6 21 = some (6, 2) := by decide +kernel
theorem f6_35 : pk ftab 6 35 = some (6, 3) := by decide +kernel
theorem f6_76 : pk ftab 6 76 = some (6, 4) := by decide +kernel
theorem f10_255 : pk ftab 10 255 = some (6, 4) := by decide +kernel
theorem f6_24 : pk ftab 6 24 = some (6, 5) := by decide +kernel
theorem f6_39 : pk ftab 6 39 = some (6, 6) := by decide +kernel
theorem f6_42 : pk ftab 6 42 = some (6, 7) := by decide +kernel
theorem f6_45 : pk ftab 6 45 = some (6, 8) := by decide +kernel
theorem f6_48 : pk ftab 6 48 = some (6, 9) := by decide +kernel
theorem f6_51 : pk ftab 6 51 = some (6, 10) := by decide +kernel
theorem f6_54 : pk ftab 6 54 = some (6, 11) := by decide +kernel
theorem f10_213 : pk ftab 10 213 = some (6, 11) := by decide +kernel
theorem f6_57 : pk ftab 6 57 = some (6, 12) := by decide +kernel
theorem f10_187 : pk ftab 10 187 = some (6, 12) := by decide +kernel
theorem f6_60 : pk ftab 6 60 = some (6, 13) := by decide +kernel
theorem f6_63 : pk ftab 6 63 = some (6, 14) := by decide +kernel
theorem f6_66 : pk ftab 6 66 = some (6, 15) := by decide +kernel
theorem f6_69 : pk ftab 6 69 = some (6, 16) := by decide +kernel
theorem f6_28 : pk ftab 6 28 = some (6, 17) := by decide +kernel
theorem f6_31 : pk ftab 6 31 = some (6, 18) := by decide +kernel
theorem f5_9 : pk ftab 5 9 = some (5, 0) := by decide +kernel
theorem f5_15 : pk ftab 5 15 = some (5, 1) := by decide +kernel
theorem f5_18 : pk ftab 5 18 = some (5, 2) := by decide +kernel
theorem f5_21 : pk ftab 5 21 = some (5, 3) := by decide +kernel
theorem f5_24 : pk ftab 5 24 = some (5, 4) := by decide +kernel
theorem f5_33 : pk ftab 5 33 = some (5, 5) := by decide +kernel
theorem f5_37 : pk ftab 5 37 = some (5, 6) := by decide +kernel
theorem f5_41 : pk ftab 5 41 = some (5, 7) := by decide +kernel
theorem f5_44 : pk ftab 5 44 = some (5, 8) := by decide +kernel
theorem f9_9 : pk ftab 9 9 = some (9, 0) := by decide +kernel
theorem f9_15 : pk ftab 9 15 = some (9, 1) := by decide +kernel
theorem f9_18 : pk ftab 9 18 = some (9, 2) := by decide +kernel
theorem f9_27 : pk ftab 9 27 = some (9, 3) := by decide +kernel
theorem f10_117 : pk ftab 10 117 = some (9, 3) := by decide +kernel
theorem f4_12 : pk ftab 4 12 = some (4, 0) := by decide +kernel
theorem f10_60 : pk ftab 10 60 = some (4, 0) := by decide +kernel
theorem f4_21 : pk ftab 4 21 = some (4, 1) := by decide +kernel
theorem f10_223 : pk ftab 10 223 = some (4, 1) := by decide +kernel
theorem f4_28 : pk ftab 4 28 = some (4, 2) := by decide +kernel
theorem f10_113 : pk ftab 10 113 = some (4, 2) := by decide +kernel
theorem f4_32 : pk ftab 4 32 = some (4, 3) := by decide +kernel
theorem f10_169 : pk ftab 10 169 = some (4, 3) := by decide +kernel
theorem f4_36 : pk ftab 4 36 = some (4, 4) := by decide +kernel
theorem f10_205 : pk ftab 10 205 = some (4, 4) := by decide +kernel
theorem f7_11 : pk ftab 7 11 = some (7, 0) := by decide +kernel
theorem f7_15 : pk ftab 7 15 = some (7, 1) := by decide +kernel
theorem f2_129 : pk ftab 2 129 = some (7, 1) := by decide +kernel
theorem f7_18 : pk ftab 7 18 = some (7, 2) := by decide +kernel
theorem f2_135 : pk ftab 2 135 = some (7, 2) := by decide +kernel
theorem f7_21 : pk ftab 7 21 = some (7, 3) := by decide +kernel
theorem f2_132 : pk ftab 2 132 = some (7, 3) := by decide +kernel
theorem f7_24 : pk ftab 7 24 = some (7, 4) := by decide +kernel
theorem f10_122 : pk ftab 10 122 = some (7, 4) := by decide +kernel
theorem f7_28 : pk ftab 7 28 = some (7, 5) := by decide +kernel
theorem f2_126 : pk ftab 2 126 = some (7, 5) := by decide +kernel
theorem f2_13 : pk ftab 2 13 = some (2, 0) := by decide +kernel
theorem f2_19 : pk ftab 2 19 = some (2, 1) := by decide +kernel
theorem f2_23 : pk ftab 2 23 = some (2, 2) := by decide +kernel
theorem f2_34 : pk ftab 2 34 = some (2, 3) := by decide +kernel
theorem f2_37 : pk ftab 2 37 = some (2, 4) := by decide +kernel
theorem f2_71 : pk ftab 2 71 = some (2, 5) := by decide +kernel
theorem f2_40 : pk ftab 2 40 = some (2, 6) := by decide +kernel
theorem f2_27 : pk ftab 2 27 = some (2, 7) := by decide +kernel
theorem f2_87 : pk ftab 2 87 = some (2, 8) := by decide +kernel
theorem f2_90 : pk ftab 2 90 = some (2, 9) := by decide +kernel
theorem f2_43 : pk ftab 2 43 = some (2, 10) := by decide +kernel
theorem f1_11 : pk ftab 1 11 = some (1, 0) := by decide +kernel
theorem f1_17 : pk ftab 1 17 = some (1, 1) := by decide +kernel
theorem f10_12 : pk ftab 10 12 = some (10, 0) := by decide +kernel
theorem f10_16 : pk ftab 10 16 = some (10, 1) := by decide +kernel
theorem f10_23 : pk ftab 10 23 = some (10, 2) := by decide +kernel
theorem f10_32 : pk ftab 10 32 = some (10, 3) := by decide +kernel
theorem f10_39 : pk ftab 10 39 = some (10, 4) := by decide +kernel
theorem f10_45 : pk ftab 10 45 = some (10, 5) := by decide +kernel
theorem f10_49 : pk ftab 10 49 = some (10, 6) := by decide +kernel
theorem f10_52 : pk ftab 10 52 = some (10, 7) := by decide +kernel
theorem f10_106 : pk ftab 10 106 = some (10, 8) := by decide +kernel
theorem f10_110 : pk ftab 10 110 = some (10, 9) := by decide +kernel
theorem f0_7 : pk ftab 0 7 = some (0, 0) := by decide +kernel
theorem f1_53 : pk ftab 1 53 = some (0, 0) := by decide +kernel
theorem f0_13 : pk ftab 0 13 = some (0, 1) := by decide +kernel
theorem f1_61 : pk ftab 1 61 = some (0, 1) := by decide +kernel
theorem f10_275 : pk ftab 10 275 = some (0, 1) := by decide +kernel
theorem f0_16 : pk ftab 0 16 = some (0, 2) := by decide +kernel
theorem f1_64 : pk ftab 1 64 = some (0, 2) := by decide +kernel
theorem f10_280 : pk ftab 10 280 = some (0, 2) := by decide +kernel
theorem f0_19 : pk ftab 0 19 = some (0, 3) := by decide +kernel
theorem f1_26 : pk ftab 1 26 = some (0, 3) := by decide +kernel
theorem f8_18 : pk ftab 8 18 = some (8, 0) := by decide +kernel
theorem f1_47 : pk ftab 1 47 = some (8, 0) := by decide +kernel
theorem f10_271 : pk ftab 10 271 = some (8, 0) := by decide +kernel
theorem f11_156 : pk ftab 11 156 = some (11, 1) := by decide +kernel
theorem f11_212 : pk ftab 11 212 = some (11, 2) := by decide +kernel
theorem f11_160 : pk ftab 11 160 = some (11, 3) := by decide +kernel
theorem f11_163 : pk ftab 11 163 = some (11, 4) := by decide +kernel
theorem f11_166 : pk ftab 11 166 = some (11, 5) := by decide +kernel
theorem f11_169 : pk ftab 11 169 = some (11, 6) := by decide +kernel
theorem f11_172 : pk ftab 11 172 = some (11, 7) := by decide +kernel
theorem f11_175 : pk ftab 11 175 = some (11, 8) := by decide +kernel
theorem f11_178 : pk ftab 11 178 = some (11, 9) := by decide +kernel
theorem f11_181 : pk ftab 11 181 = some (11, 10) := by decide +kernel
theorem f11_7 : pk ftab 11 7 = some (11, 11) := by decide +kernel
theorem f11_184 : pk ftab 11 184 = some (11, 12) := by decide +kernel
theorem f11_13 : pk ftab 11 13 = some (11, 13) := by decide +kernel
theorem f11_16 : pk ftab 11 16 = some (11, 14) := by decide +kernel
theorem f11_19 : pk ftab 11 19 = some (11, 15) := by decide +kernel
theorem f11_22 : pk ftab 11 22 = some (11, 16) := by decide +kernel
theorem f11_26 : pk ftab 11 26 = some (11, 17) := by decide +kernel
theorem f11_29 : pk ftab 11 29 = some (11, 18) := by decide +kernel
theorem f11_32 : pk ftab 11 32 = some (11, 19) := by decide +kernel
theorem f11_35 : pk ftab 11 35 = some (11, 20) := by decide +kernel
theorem f11_38 : pk ftab 11 38 = some (11, 21) := by decide +kernel
theorem f11_41 : pk ftab 11 41 = some (11, 22) := by decide +kernel
theorem f11_44 : pk ftab 11 44 = some (11, 23) := by decide +kernel
theorem f11_47 : pk ftab 11 47 = some (11, 24) := by decide +kernel
theorem f11_50 : pk ftab 11 50 = some (11, 25) := by decide +kernel
theorem f11_53 : pk ftab 11 53 = some (11, 26) := by decide +kernel
theorem f11_238 : pk ftab 11 238 = some (11, 27) := by decide +kernel
theorem f11_276 : pk ftab 11 276 = some (11, 28) := by decide +kernel
theorem f11_273 : pk ftab 11 273 = some (11, 29) := by decide +kernel
theorem f11_301 : pk ftab 11 301 = some (11, 30) := by decide +kernel
theorem f11_304 : pk ftab 11 304 = some (11, 31) := by decide +kernel
theorem f11_339 : pk ftab 11 339 = some (11, 32) := by decide +kernel
theorem f11_307 : pk ftab 11 307 = some (11, 33) := by decide +kernel
theorem f11_336 : pk ftab 11 336 = some (11, 34) := by decide +kernel
theorem f11_56 : pk ftab 11 56 = some (11, 35) := by decide +kernel
theorem f11_60 : pk ftab 11 60 = some (11, 36) := by decide +kernel
theorem f11_63 : pk ftab 11 63 = some (11, 37) := by decide +kernel
theorem f11_66 : pk ftab 11 66 = some (11, 38) := by decide +kernel
theorem f11_69 : pk ftab 11 69 = some (11, 39) := by decide +kernel
theorem f11_72 : pk ftab 11 72 = some (11, 40) := by decide +kernel
theorem f11_75 : pk ftab 11 75 = some (11, 41) := by decide +kernel
theorem f11_78 : pk ftab 11 78 = some (11, 42) := by decide +kernel
theorem f11_81 : pk ftab 11 81 = some (11, 43) := by decide +kernel
theorem f11_84 : pk ftab 11 84 = some (11, 44) := by decide +kernel
theorem f11_87 : pk ftab 11 87 = some (11, 45) := by decide +kernel
theorem f11_90 : pk ftab 11 90 = some (11, 46) := by decide +kernel
theorem f11_94 : pk ftab 11 94 = some (11, 47) := by decide +kernel
theorem f11_97 : pk ftab 11 97 = some (11, 48) := by decide +kernel
theorem f11_100 : pk ftab 11 100 = some (11, 49) := by decide +kernel
theorem f11_103 : pk ftab 11 103 = some (11, 50) := by decide +kernel
theorem f11_475 : pk ftab 11 475 = some (11, 51) := by decide +kernel
theorem f11_478 : pk ftab 11 478 = some (11, 52) := by decide +kernel
theorem f11_481 : pk ftab 11 481 = some (11, 53) := by decide +kernel
theorem f11_470 : pk ftab 11 470 = some (11, 54) := by decide +kernel
theorem f11_106 : pk ftab 11 106 = some (11, 55) := by decide +kernel
theorem f11_109 : pk ftab 11 109 = some (11, 56) := by decide +kernel
theorem f11_112 : pk ftab 11 112 = some (11, 57) := by decide +kernel
theorem f11_115 : pk ftab 11 115 = some (11, 58) := by decide +kernel
theorem f11_118 : pk ftab 11 118 = some (11, 59) := by decide +kernel
theorem f11_121 : pk ftab 11 121 = some (11, 60) := by decide +kernel
theorem f11_235 : pk ftab 11 235 = some (11, 61) := by decide +kernel
theorem f11_124 : pk ftab 11 124 = some (11, 62) := by decide +kernel
theorem f11_127 : pk ftab 11 127 = some (11, 63) := by decide +kernel
theorem f11_130 : pk ftab 11 130 = some (11, 64) := by decide +kernel
theorem f11_133 : pk ftab 11 133 = some (11, 65) := by decide +kernel
theorem f11_136 : pk ftab 11 136 = some (11, 66) := by decide +kernel
theorem f11_139 : pk ftab 11 139 = some (11, 67) := by decide +kernel
theorem f11_507 : pk ftab 11 507 = some (11, 68) := by decide +kernel
theorem f11_504 : pk ftab 11 504 = some (11, 69) := by decide +kernel
theorem m12_9 : pk mtab 12 9 = some (4, 0, 98) := by decide +kernel
theorem m10_3 : pk mtab 10 3 = some (9, 0, 1200) := by decide +kernel
theorem m10_11 : pk mtab 10 11 = some (4, 0, 34) := by decide +kernel
theorem m4_3 : pk mtab 4 3 = some (9, 0, 1200) := by decide +kernel
theorem m4_11 : pk mtab 4 11 = some (4, 0, 45) := by decide +kernel
theorem m6_3 : pk mtab 6 3 = some (9, 0, 1200) := by decide +kernel
theorem m6_34 : pk mtab 6 34 = some (5, 0, 29) := by decide +kernel
theorem m3_1 : pk mtab 3 1 = some (9, 0, 1200) := by decide +kernel
theorem m4_20 : pk mtab 4 20 = some (4, 0, 36) := by decide +kernel
theorem m5_3 : pk mtab 5 3 = some (9, 0, 1200) := by decide +kernel
theorem m4_27 : pk mtab 4 27 = some (5, 0, 93) := by decide +kernel
theorem m9_3 : pk mtab 9 3 = some (9, 0, 1200) := by decide +kernel
theorem m10_22 : pk mtab 10 22 = some (5, 0, 77) := by decide +kernel
theorem m7_3 : pk mtab 7 3 = some (9, 0, 1200) := by decide +kernel
theorem m10_29 : pk mtab 10 29 = some (4, 1, 11) := by decide +kernel
theorem m2_3 : pk mtab 2 3 = some (9, 0, 1200) := by decide +kernel
theorem m10_38 : pk mtab 10 38 = some (5, 0, 1) := by decide +kernel
theorem m1_3 : pk mtab 1 3 = some (9, 0, 1200) := by decide +kernel
theorem m12_13 : pk mtab 12 13 = some (0, 5, 99) := by decide +kernel
theorem m10_56 : pk mtab 10 56 = some (2, 3, 139) := by decide +kernel
theorem m10_64 : pk mtab 10 64 = some (0, 5, 46) := by decide +kernel
theorem m12_18 : pk mtab 12 18 = some (0, 8, 100) := by decide +kernel
theorem m10_71 : pk mtab 10 71 = some (0, 0, 51) := by decide +kernel
theorem m6_89 : pk mtab 6 89 = some (0, 0, 50) := by decide +kernel
theorem m10_75 : pk mtab 10 75 = some (0, 3, 30) := by decide +kernel
theorem m10_81 : pk mtab 10 81 = some (0, 3, 31) := by decide +kernel
theorem m10_84 : pk mtab 10 84 = some (0, 2, 32) := by decide +kernel
theorem m10_88 : pk mtab 10 88 = some (0, 1, 52) := by decide +kernel
theorem m6_96 : pk mtab 6 96 = some (0, 1, 61) := by decide +kernel
theorem m6_125 : pk mtab 6 125 = some (9, 2, 1201) := by decide +kernel
theorem m12_23 : pk mtab 12 23 = some (0, 2, 101) := by decide +kernel
theorem m10_92 : pk mtab 10 92 = some (0, 2, 53) := by decide +kernel
theorem m6_106 : pk mtab 6 106 = some (0, 0, 59) := by decide +kernel
theorem m6_115 : pk mtab 6 115 = some (0, 0, 60) := by decide +kernel
theorem m6_128 : pk mtab 6 128 = some (0, 1, 65) := by decide +kernel
theorem m6_146 : pk mtab 6 146 = some (0, 2, 64) := by decide +kernel
theorem m6_137 : pk mtab 6 137 = some (0, 1, 63) := by decide +kernel
theorem m6_109 : pk mtab 6 109 = some (9, 2, 1202) := by decide +kernel
theorem m12_28 : pk mtab 12 28 = some (0, 1, 102) := by decide +kernel
theorem m10_96 : pk mtab 10 96 = some (0, 1, 54) := by decide +kernel
theorem m12_33 : pk mtab 12 33 = some (0, 1, 103) := by decide +kernel
theorem m10_100 : pk mtab 10 100 = some (0, 1, 55) := by decide +kernel
theorem m12_37 : pk mtab 12 37 = some (0, 1, 104) := by decide +kernel
theorem m10_103 : pk mtab 10 103 = some (0, 1, 56) := by decide +kernel
theorem m6_119 : pk mtab 6 119 = some (0, 0, 57) := by decide +kernel
theorem m6_122 : pk mtab 6 122 = some (0, 0, 58) := by decide +kernel
theorem m12_41 : pk mtab 12 41 = some (0, 1, 105) := by decide +kernel
theorem m10_125 : pk mtab 10 125 = some (0, 1, 66) := by decide +kernel
theorem m12_45 : pk mtab 12 45 = some (0, 2, 106) := by decide +kernel
theorem m10_128 : pk mtab 10 128 = some (0, 2, 67) := by decide +kernel
theorem m12_49 : pk mtab 12 49 = some (0, 2, 107) := by decide +kernel
theorem m10_131 : pk mtab 10 131 = some (0, 2, 68) := by decide +kernel
theorem m6_153 : pk mtab 6 153 = some (0, 1, 48) := by decide +kernel
theorem m12_53 : pk mtab 12 53 = some (0, 0, 108) := by decide +kernel
theorem m10_134 : pk mtab 10 134 = some (0, 0, 69) := by decide +kernel
theorem m6_157 : pk mtab 6 157 = some (0, 2, 70) := by decide +kernel
theorem m12_58 : pk mtab 12 58 = some (0, 5, 109) := by decide +kernel
theorem m10_138 : pk mtab 10 138 = some (0, 0, 78) := by decide +kernel
theorem m10_142 : pk mtab 10 142 = some (0, 1, 79) := by decide +kernel
theorem m12_63 : pk mtab 12 63 = some (0, 1, 110) := by decide +kernel
theorem m10_146 : pk mtab 10 146 = some (0, 1, 80) := by decide +kernel
theorem m12_67 : pk mtab 12 67 = some (0, 0, 111) := by decide +kernel
theorem m10_150 : pk mtab 10 150 = some (0, 1, 13) := by decide +kernel
theorem m2_31 : pk mtab 2 31 = some (0, 0, 81) := by decide +kernel
theorem m7_31 : pk mtab 7 31 = some (0, 1, 82) := by decide +kernel
theorem m7_39 : pk mtab 7 39 = some (2, 1, 87) := by decide +kernel
theorem m7_43 : pk mtab 7 43 = some (0, 1, 83) := by decide +kernel
theorem m7_35 : pk mtab 7 35 = some (0, 3, 86) := by decide +kernel
theorem m7_46 : pk mtab 7 46 = some (2, 1, 88) := by decide +kernel
theorem m7_49 : pk mtab 7 49 = some (0, 1, 84) := by decide +kernel
theorem m7_55 : pk mtab 7 55 = some (2, 1, 90) := by decide +kernel
theorem m7_90 : pk mtab 7 90 = some (2, 1, 91) := by decide +kernel
theorem m7_59 : pk mtab 7 59 = some (0, 3, 85) := by decide +kernel
theorem m7_63 : pk mtab 7 63 = some (9, 0, 1205) := by decide +kernel
theorem m7_68 : pk mtab 7 68 = some (9, 1, 1206) := by decide +kernel
theorem m7_52 : pk mtab 7 52 = some (2, 1, 89) := by decide +kernel
theorem m2_47 : pk mtab 2 47 = some (0, 1, 14) := by decide +kernel
theorem m2_51 : pk mtab 2 51 = some (0, 0, 24) := by decide +kernel
theorem m2_64 : pk mtab 2 64 = some (2, 2, 15) := by decide +kernel
theorem m2_68 : pk mtab 2 68 = some (0, 1, 28) := by decide +kernel
theorem m2_74 : pk mtab 2 74 = some (0, 1, 16) := by decide +kernel
theorem m2_93 : pk mtab 2 93 = some (0, 2, 18) := by decide +kernel
theorem m2_97 : pk mtab 2 97 = some (0, 0, 25) := by decide +kernel
theorem m2_109 : pk mtab 2 109 = some (3, 3, 139) := by decide +kernel
theorem m2_60 : pk mtab 2 60 = some (0, 1, 27) := by decide +kernel
theorem m2_77 : pk mtab 2 77 = some (0, 1, 26) := by decide +kernel
theorem m2_80 : pk mtab 2 80 = some (0, 1, 19) := by decide +kernel
theorem m2_113 : pk mtab 2 113 = some (0, 1, 20) := by decide +kernel
theorem m2_119 : pk mtab 2 119 = some (0, 0, 21) := by decide +kernel
theorem m2_123 : pk mtab 2 123 = some (0, 0, 22) := by decide +kernel
theorem m2_116 : pk mtab 2 116 = some (0, 1, 23) := by decide +kernel
theorem m2_83 : pk mtab 2 83 = some (0, 1, 17) := by decide +kernel
theorem m2_100 : pk mtab 2 100 = some (9, 5, 1204) := by decide +kernel
theorem m2_106 : pk mtab 2 106 = some (4, 4, 0) := by decide +kernel
theorem m0_1 : pk mtab 0 1 = some (9, 0, 1200) := by decide +kernel
theorem m2_57 : pk mtab 2 57 = some (4, 2, 92) := by decide +kernel
theorem m8_1 : pk mtab 8 1 = some (9, 0, 1200) := by decide +kernel
theorem m8_7 : pk mtab 8 7 = some (9, 2, 1202) := by decide +kernel
theorem m8_13 : pk mtab 8 13 = some (9, 2, 1201) := by decide +kernel
theorem m10_154 : pk mtab 10 154 = some (0, 0, 12) := by decide +kernel
theorem m12_71 : pk mtab 12 71 = some (0, 0, 112) := by decide +kernel
theorem m12_75 : pk mtab 12 75 = some (0, 2, 113) := by decide +kernel
theorem m10_157 : pk mtab 10 157 = some (0, 2, 134) := by decide +kernel
theorem m10_258 : pk mtab 10 258 = some (0, 1, 48) := by decide +kernel
theorem m10_161 : pk mtab 10 161 = some (0, 2, 2) := by decide +kernel
theorem m1_20 : pk mtab 1 20 = some (0, 2, 76) := by decide +kernel
theorem m10_165 : pk mtab 10 165 = some (0, 1, 7) := by decide +kernel
theorem m1_57 : pk mtab 1 57 = some (0, 1, 3) := by decide +kernel
theorem m1_31 : pk mtab 1 31 = some (0, 2, 4) := by decide +kernel
theorem m1_35 : pk mtab 1 35 = some (0, 1, 5) := by decide +kernel
theorem m1_43 : pk mtab 1 43 = some (3, 3, 139) := by decide +kernel
theorem m1_39 : pk mtab 1 39 = some (2, 3, 6) := by decide +kernel
theorem m12_79 : pk mtab 12 79 = some (0, 2, 114) := by decide +kernel
theorem m12_83 : pk mtab 12 83 = some (0, 3, 115) := by decide +kernel
theorem m10_172 : pk mtab 10 172 = some (0, 2, 8) := by decide +kernel
theorem m12_88 : pk mtab 12 88 = some (0, 2, 116) := by decide +kernel
theorem m10_178 : pk mtab 10 178 = some (0, 2, 9) := by decide +kernel
theorem m1_67 : pk mtab 1 67 = some (0, 1, 7) := by decide +kernel
theorem m1_71 : pk mtab 1 71 = some (2, 1, 10) := by decide +kernel
theorem m1_77 : pk mtab 1 77 = some (0, 2, 8) := by decide +kernel
theorem m12_93 : pk mtab 12 93 = some (0, 2, 117) := by decide +kernel
theorem m12_97 : pk mtab 12 97 = some (0, 4, 118) := by decide +kernel
theorem m10_184 : pk mtab 10 184 = some (0, 2, 135) := by decide +kernel
theorem m12_102 : pk mtab 12 102 = some (0, 2, 119) := by decide +kernel
theorem m12_106 : pk mtab 12 106 = some (0, 2, 120) := by decide +kernel
theorem m10_190 : pk mtab 10 190 = some (0, 2, 71) := by decide +kernel
theorem m12_110 : pk mtab 12 110 = some (0, 2, 121) := by decide +kernel
theorem m10_193 : pk mtab 10 193 = some (0, 2, 72) := by decide +kernel
theorem m12_114 : pk mtab 12 114 = some (0, 0, 122) := by decide +kernel
theorem m10_196 : pk mtab 10 196 = some (0, 0, 73) := by decide +kernel
theorem m6_161 : pk mtab 6 161 = some (0, 1, 75) := by decide +kernel
theorem m6_171 : pk mtab 6 171 = some (0, 1, 62) := by decide +kernel
theorem m12_118 : pk mtab 12 118 = some (0, 1, 123) := by decide +kernel
theorem m10_199 : pk mtab 10 199 = some (0, 1, 74) := by decide +kernel
theorem m6_167 : pk mtab 6 167 = some (0, 0, 73) := by decide +kernel
theorem m12_122 : pk mtab 12 122 = some (0, 2, 124) := by decide +kernel
theorem m10_202 : pk mtab 10 202 = some (0, 1, 49) := by decide +kernel
theorem m10_208 : pk mtab 10 208 = some (9, 2, 1201) := by decide +kernel
theorem m12_127 : pk mtab 12 127 = some (0, 0, 125) := by decide +kernel
theorem m10_216 : pk mtab 10 216 = some (0, 1, 136) := by decide +kernel
theorem m10_282 : pk mtab 10 282 = some (0, 2, 137) := by decide +kernel
theorem m10_285 : pk mtab 10 285 = some (0, 1, 3) := by decide +kernel
theorem m12_131 : pk mtab 12 131 = some (0, 3, 126) := by decide +kernel
theorem m10_220 : pk mtab 10 220 = some (2, 2, 138) := by decide +kernel
theorem m10_227 : pk mtab 10 227 = some (0, 2, 38) := by decide +kernel
theorem m5_47 : pk mtab 5 47 = some (3, 3, 139) := by decide +kernel
theorem m12_135 : pk mtab 12 135 = some (0, 5, 127) := by decide +kernel
theorem m10_233 : pk mtab 10 233 = some (0, 4, 39) := by decide +kernel
theorem m5_51 : pk mtab 5 51 = some (0, 0, 43) := by decide +kernel
theorem m5_68 : pk mtab 5 68 = some (9, 2, 1201) := by decide +kernel
theorem m12_139 : pk mtab 12 139 = some (0, 1, 128) := by decide +kernel
theorem m10_237 : pk mtab 10 237 = some (0, 1, 40) := by decide +kernel
theorem m5_54 : pk mtab 5 54 = some (0, 1, 41) := by decide +kernel
theorem m5_58 : pk mtab 5 58 = some (0, 3, 42) := by decide +kernel
theorem m5_62 : pk mtab 5 62 = some (9, 2, 1202) := by decide +kernel
theorem m12_143 : pk mtab 12 143 = some (0, 3, 129) := by decide +kernel
theorem m10_240 : pk mtab 10 240 = some (0, 2, 44) := by decide +kernel
theorem m12_147 : pk mtab 12 147 = some (0, 3, 130) := by decide +kernel
theorem m10_243 : pk mtab 10 243 = some (0, 3, 95) := by decide +kernel
theorem m12_151 : pk mtab 12 151 = some (0, 5, 131) := by decide +kernel
theorem m10_247 : pk mtab 10 247 = some (0, 5, 96) := by decide +kernel
theorem m9_31 : pk mtab 9 31 = some (3, 3, 139) := by decide +kernel
theorem m9_35 : pk mtab 9 35 = some (9, 1, 1203) := by decide +kernel
theorem m9_41 : pk mtab 9 41 = some (2, 2, 97) := by decide +kernel
theorem m12_155 : pk mtab 12 155 = some (0, 1, 132) := by decide +kernel
theorem m10_251 : pk mtab 10 251 = some (0, 1, 35) := by decide +kernel
theorem m4_39 : pk mtab 4 39 = some (0, 1, 47) := by decide +kernel
theorem m6_72 : pk mtab 6 72 = some (0, 5, 46) := by decide +kernel
theorem m6_79 : pk mtab 6 79 = some (9, 5, 1204) := by decide +kernel
theorem m6_85 : pk mtab 6 85 = some (0, 1, 33) := by decide +kernel
theorem m3_37 : pk mtab 3 37 = some (0, 3, 30) := by decide +kernel
theorem m3_41 : pk mtab 3 41 = some (0, 3, 31) := by decide +kernel
theorem m3_44 : pk mtab 3 44 = some (0, 2, 32) := by decide +kernel
theorem m4_43 : pk mtab 4 43 = some (0, 1, 37) := by decide +kernel
theorem m5_27 : pk mtab 5 27 = some (9, 5, 1204) := by decide +kernel
theorem m4_46 : pk mtab 4 46 = some (0, 1, 94) := by decide +kernel
theorem m9_21 : pk mtab 9 21 = some (9, 5, 1204) := by decide +kernel
theorem m4_49 : pk mtab 4 49 = some (9, 5, 1204) := by decide +kernel
theorem m12_159 : pk mtab 12 159 = some (0, 1, 133) := by decide +kernel
theorem m12_12 : pk mtab 12 12 = some (4, 0, 140) := by decide +kernel
theorem m11_1 : pk mtab 11 1 = some (9, 0, 1200) := by decide +kernel
theorem m12_17 : pk mtab 12 17 = some (0, 5, 142) := by decide +kernel
theorem m11_148 : pk mtab 11 148 = some (2, 3, 141) := by decide +kernel
theorem m12_22 : pk mtab 12 22 = some (0, 8, 153) := by decide +kernel
theorem m11_206 : pk mtab 11 206 = some (0, 1, 147) := by decide +kernel
theorem m11_191 : pk mtab 11 191 = some (0, 0, 145) := by decide +kernel
theorem m11_195 : pk mtab 11 195 = some (0, 4, 146) := by decide +kernel
theorem m11_187 : pk mtab 11 187 = some (0, 1, 144) := by decide +kernel
theorem m12_27 : pk mtab 12 27 = some (0, 2, 154) := by decide +kernel
theorem m11_223 : pk mtab 11 223 = some (0, 0, 151) := by decide +kernel
theorem m11_209 : pk mtab 11 209 = some (0, 1, 150) := by decide +kernel
theorem m11_202 : pk mtab 11 202 = some (0, 2, 149) := by decide +kernel
theorem m11_199 : pk mtab 11 199 = some (0, 1, 148) := by decide +kernel
theorem m11_227 : pk mtab 11 227 = some (0, 0, 152) := by decide +kernel
theorem m12_32 : pk mtab 12 32 = some (0, 1, 155) := by decide +kernel
theorem m12_36 : pk mtab 12 36 = some (0, 1, 156) := by decide +kernel
theorem m12_40 : pk mtab 12 40 = some (0, 1, 158) := by decide +kernel
theorem m11_232 : pk mtab 11 232 = some (0, 0, 157) := by decide +kernel
theorem m12_44 : pk mtab 12 44 = some (0, 1, 159) := by decide +kernel
theorem m12_48 : pk mtab 12 48 = some (0, 2, 160) := by decide +kernel
theorem m12_52 : pk mtab 12 52 = some (0, 2, 161) := by decide +kernel
theorem m11_241 : pk mtab 11 241 = some (0, 1, 143) := by decide +kernel
theorem m12_57 : pk mtab 12 57 = some (0, 0, 163) := by decide +kernel
theorem m11_245 : pk mtab 11 245 = some (0, 2, 162) := by decide +kernel
theorem m12_62 : pk mtab 12 62 = some (0, 5, 164) := by decide +kernel
theorem m11_249 : pk mtab 11 249 = some (0, 1, 165) := by decide +kernel
theorem m12_66 : pk mtab 12 66 = some (0, 1, 166) := by decide +kernel
theorem m12_70 : pk mtab 12 70 = some (0, 0, 191) := by decide +kernel
theorem m11_400 : pk mtab 11 400 = some (0, 1, 190) := by decide +kernel
theorem m11_295 : pk mtab 11 295 = some (0, 0, 170) := by decide +kernel
theorem m11_279 : pk mtab 11 279 = some (0, 0, 169) := by decide +kernel
theorem m11_394 : pk mtab 11 394 = some (0, 1, 187) := by decide +kernel
theorem m11_298 : pk mtab 11 298 = some (0, 1, 172) := by decide +kernel
theorem m11_286 : pk mtab 11 286 = some (9, 0, 1205) := by decide +kernel
theorem m11_291 : pk mtab 11 291 = some (9, 1, 1206) := by decide +kernel
theorem m11_310 : pk mtab 11 310 = some (0, 2, 168) := by decide +kernel
theorem m11_369 : pk mtab 11 369 = some (0, 1, 186) := by decide +kernel
theorem m11_372 : pk mtab 11 372 = some (0, 2, 185) := by decide +kernel
theorem m11_317 : pk mtab 11 317 = some (0, 1, 176) := by decide +kernel
theorem m11_314 : pk mtab 11 314 = some (0, 0, 171) := by decide +kernel
theorem m11_375 : pk mtab 11 375 = some (0, 0, 184) := by decide +kernel
theorem m11_353 : pk mtab 11 353 = some (0, 0, 183) := by decide +kernel
theorem m11_347 : pk mtab 11 347 = some (0, 1, 181) := by decide +kernel
theorem m11_350 : pk mtab 11 350 = some (0, 0, 179) := by decide +kernel
theorem m11_333 : pk mtab 11 333 = some (0, 0, 178) := by decide +kernel
theorem m11_330 : pk mtab 11 330 = some (0, 0, 177) := by decide +kernel
theorem m11_320 : pk mtab 11 320 = some (0, 1, 175) := by decide +kernel
theorem m11_323 : pk mtab 11 323 = some (0, 2, 174) := by decide +kernel
theorem m11_326 : pk mtab 11 326 = some (2, 1, 167) := by decide +kernel
theorem m11_356 : pk mtab 11 356 = some (0, 1, 182) := by decide +kernel
theorem m11_342 : pk mtab 11 342 = some (0, 0, 180) := by decide +kernel
theorem m11_382 : pk mtab 11 382 = some (0, 0, 188) := by decide +kernel
theorem m11_387 : pk mtab 11 387 = some (0, 1, 173) := by decide +kernel
theorem m11_397 : pk mtab 11 397 = some (0, 1, 189) := by decide +kernel
theorem m12_74 : pk mtab 12 74 = some (0, 0, 192) := by decide +kernel
theorem m12_78 : pk mtab 12 78 = some (0, 2, 200) := by decide +kernel
theorem m11_421 : pk mtab 11 421 = some (0, 2, 198) := by decide +kernel
theorem m11_424 : pk mtab 11 424 = some (0, 2, 199) := by decide +kernel
theorem m11_415 : pk mtab 11 415 = some (0, 1, 196) := by decide +kernel
theorem m11_418 : pk mtab 11 418 = some (0, 1, 197) := by decide +kernel
theorem m11_411 : pk mtab 11 411 = some (0, 3, 195) := by decide +kernel
theorem m11_407 : pk mtab 11 407 = some (2, 3, 194) := by decide +kernel
theorem m11_403 : pk mtab 11 403 = some (2, 1, 193) := by decide +kernel
theorem m12_82 : pk mtab 12 82 = some (0, 2, 201) := by decide +kernel
theorem m12_87 : pk mtab 12 87 = some (0, 3, 203) := by decide +kernel
theorem m11_431 : pk mtab 11 431 = some (0, 3, 202) := by decide +kernel
theorem m12_92 : pk mtab 12 92 = some (0, 2, 205) := by decide +kernel
theorem m11_439 : pk mtab 11 439 = some (0, 2, 204) := by decide +kernel
theorem m12_96 : pk mtab 12 96 = some (0, 2, 206) := by decide +kernel
theorem m12_101 : pk mtab 12 101 = some (0, 4, 207) := by decide +kernel
theorem m12_105 : pk mtab 12 105 = some (0, 2, 208) := by decide +kernel
theorem m12_109 : pk mtab 12 109 = some (0, 2, 209) := by decide +kernel
theorem m12_113 : pk mtab 12 113 = some (0, 2, 211) := by decide +kernel
theorem m11_453 : pk mtab 11 453 = some (0, 1, 210) := by decide +kernel
theorem m12_117 : pk mtab 12 117 = some (0, 0, 213) := by decide +kernel
theorem m11_456 : pk mtab 11 456 = some (0, 1, 212) := by decide +kernel
theorem m12_121 : pk mtab 12 121 = some (0, 1, 214) := by decide +kernel
theorem m11_459 : pk mtab 11 459 = some (0, 0, 213) := by decide +kernel
theorem m12_126 : pk mtab 12 126 = some (0, 2, 215) := by decide +kernel
theorem m12_130 : pk mtab 12 130 = some (0, 0, 217) := by decide +kernel
theorem m11_462 : pk mtab 11 462 = some (0, 1, 216) := by decide +kernel
theorem m12_134 : pk mtab 12 134 = some (0, 3, 219) := by decide +kernel
theorem m11_467 : pk mtab 11 467 = some (2, 2, 218) := by decide +kernel
theorem m12_138 : pk mtab 12 138 = some (0, 5, 221) := by decide +kernel
theorem m11_484 : pk mtab 11 484 = some (0, 0, 220) := by decide +kernel
theorem m12_142 : pk mtab 12 142 = some (0, 1, 224) := by decide +kernel
theorem m11_493 : pk mtab 11 493 = some (0, 0, 223) := by decide +kernel
theorem m11_487 : pk mtab 11 487 = some (0, 3, 222) := by decide +kernel
theorem m12_146 : pk mtab 12 146 = some (0, 3, 225) := by decide +kernel
theorem m12_150 : pk mtab 12 150 = some (0, 3, 226) := by decide +kernel
theorem m12_154 : pk mtab 12 154 = some (0, 5, 227) := by decide +kernel
theorem m12_158 : pk mtab 12 158 = some (0, 1, 230) := by decide +kernel
theorem m11_514 : pk mtab 11 514 = some (0, 1, 229) := by decide +kernel
theorem m11_510 : pk mtab 11 510 = some (0, 1, 228) := by decide +kernel
theorem m12_162 : pk mtab 12 162 = some (0, 1, 231) := by decide +kernel
theorem k12_7 : pk ctab 12 7 = some 10 := by decide +kernel
theorem k10_9 : pk ctab 10 9 = some 4 := by decide +kernel
theorem k4_9 : pk ctab 4 9 = some 6 := by decide +kernel
theorem k6_9 : pk ctab 6 9 = some 3 := by decide +kernel
theorem k4_18 : pk ctab 4 18 = some 5 := by decide +kernel
theorem k4_25 : pk ctab 4 25 = some 9 := by decide +kernel
theorem k10_20 : pk ctab 10 20 = some 7 := by decide +kernel
theorem k10_27 : pk ctab 10 27 = some 2 := by decide +kernel
theorem k2_11 : pk ctab 2 11 = some 0 := by decide +kernel
theorem k10_36 : pk ctab 10 36 = some 1 := by decide +kernel
theorem k10_43 : pk ctab 10 43 = some 8 := by decide +kernel
theorem k2_55 : pk ctab 2 55 = some 8 := by decide +kernel
theorem k8_16 : pk ctab 8 16 = some 0 := by decide +kernel
theorem k12_10 : pk ctab 12 10 = some 11 := by decide +kernel
theorem ki10_70 : pk itab 10 70 = some 9999999 := by decide +kernel
theorem ki6_118 : pk itab 6 118 = some 99999 := by decide +kernel
theorem ki10_232 : pk itab 10 232 = some 99999 := by decide +kernel
theorem ki11_231 : pk itab 11 231 = some 99999 := by decide +kernel
theorem kl10_176 : pk jtab 10 176 = some (-1) := by decide +kernel
theorem kl1_75 : pk jtab 1 75 = some (1000000) := by decide +kernel
theorem kl1_81 : pk jtab 1 81 = some (1000) := by decide +kernel
theorem kl10_182 : pk jtab 10 182 = some (1000000) := by decide +kernel
theorem kl10_261 : pk jtab 10 261 = some (1103515245) := by decide +kernel
theorem kl10_263 : pk jtab 10 263 = some (12345) := by decide +kernel
theorem kl10_265 : pk jtab 10 265 = some (2147483648) := by decide +kernel
theorem kl10_267 : pk jtab 10 267 = some (65536) := by decide +kernel
theorem kl10_269 : pk jtab 10 269 = some (1000) := by decide +kernel
theorem kl11_146 : pk jtab 11 146 = some (99) := by decide +kernel
theorem kl11_152 : pk jtab 11 152 = some (999) := by decide +kernel
theorem kl11_154 : pk jtab 11 154 = some (199) := by decide +kernel
theorem kl11_215 : pk jtab 11 215 = some (20) := by decide +kernel
theorem kl11_217 : pk jtab 11 217 = some (-50) := by decide +kernel
theorem kl11_219 : pk jtab 11 219 = some (9) := by decide +kernel
theorem kl11_221 : pk jtab 11 221 = some (9999999) := by decide +kernel
theorem kl11_229 : pk jtab 11 229 = some (500) := by decide +kernel
theorem kl11_282 : pk jtab 11 282 = some (48) := by decide +kernel
theorem kl11_284 : pk jtab 11 284 = some (57) := by decide +kernel
theorem kl11_378 : pk jtab 11 378 = some (65) := by decide +kernel
theorem kl11_380 : pk jtab 11 380 = some (80) := by decide +kernel
theorem kl11_427 : pk jtab 11 427 = some (15) := by decide +kernel
theorem kl11_429 : pk jtab 11 429 = some (-1) := by decide +kernel
theorem kl11_435 : pk jtab 11 435 = some (1000000) := by decide +kernel
theorem kl11_437 : pk jtab 11 437 = some (1000) := by decide +kernel
theorem kl11_443 : pk jtab 11 443 = some (200) := by decide +kernel
theorem kl11_445 : pk jtab 11 445 = some (1103515245) := by decide +kernel
theorem kl11_447 : pk jtab 11 447 = some (12345) := by decide +kernel
theorem kl11_449 : pk jtab 11 449 = some (2147483648) := by decide +kernel
theorem kl11_451 : pk jtab 11 451 = some (65536) := by decide +kernel
theorem kl11_465 : pk jtab 11 465 = some (11) := by decide +kernel
theorem kl11_473 : pk jtab 11 473 = some (99999) := by decide +kernel
theorem kl11_491 : pk jtab 11 491 = some (60) := by decide +kernel
theorem kl11_496 : pk jtab 11 496 = some (3) := by decide +kernel
theorem kl11_498 : pk jtab 11 498 = some (4) := by decide +kernel
theorem kl11_500 : pk jtab 11 500 = some (255) := by decide +kernel
theorem kl11_502 : pk jtab 11 502 = some (7) := by decide +kernel
theorem ks7_72 : pk stab 7 72 = some 0 := by decide +kernel
theorem ks7_74 : pk stab 7 74 = some 1 := by decide +kernel
theorem ks7_76 : pk stab 7 76 = some 2 := by decide +kernel
theorem ks7_78 : pk stab 7 78 = some 3 := by decide +kernel
theorem ks7_80 : pk stab 7 80 = some 4 := by decide +kernel
theorem ks7_82 : pk stab 7 82 = some 5 := by decide +kernel
theorem ks7_84 : pk stab 7 84 = some 6 := by decide +kernel
theorem ks7_86 : pk stab 7 86 = some 7 := by decide +kernel
theorem ks7_88 : pk stab 7 88 = some 8 := by decide +kernel
theorem ks7_93 : pk stab 7 93 = some 9 := by decide +kernel
theorem ks7_95 : pk stab 7 95 = some 10 := by decide +kernel
theorem ks7_97 : pk stab 7 97 = some 11 := by decide +kernel
theorem ks7_99 : pk stab 7 99 = some 12 := by decide +kernel
theorem ks7_101 : pk stab 7 101 = some 13 := by decide +kernel
theorem ks7_103 : pk stab 7 103 = some 14 := by decide +kernel
theorem ks7_105 : pk stab 7 105 = some 15 := by decide +kernel
theorem ks7_107 : pk stab 7 107 = some 16 := by decide +kernel
theorem ks7_109 : pk stab 7 109 = some 17 := by decide +kernel
theorem ks7_111 : pk stab 7 111 = some 18 := by decide +kernel
theorem ks7_113 : pk stab 7 113 = some 19 := by decide +kernel
theorem ks7_115 : pk stab 7 115 = some 20 := by decide +kernel
theorem ks7_117 : pk stab 7 117 = some 21 := by decide +kernel
theorem ks11_363 : pk stab 11 363 = some 0 := by decide +kernel
theorem ks11_365 : pk stab 11 365 = some 1 := by decide +kernel
theorem ks11_367 : pk stab 11 367 = some 2 := by decide +kernel
theorem ks11_345 : pk stab 11 345 = some 6 := by decide +kernel
theorem ks11_253 : pk stab 11 253 = some 9 := by decide +kernel
theorem ks11_254 : pk stab 11 254 = some 10 := by decide +kernel
theorem ks11_255 : pk stab 11 255 = some 11 := by decide +kernel
theorem ks11_256 : pk stab 11 256 = some 12 := by decide +kernel
theorem ks11_258 : pk stab 11 258 = some 13 := by decide +kernel
theorem ks11_260 : pk stab 11 260 = some 14 := by decide +kernel
theorem ks11_261 : pk stab 11 261 = some 15 := by decide +kernel
theorem ks11_263 : pk stab 11 263 = some 16 := by decide +kernel
theorem ks11_265 : pk stab 11 265 = some 17 := by decide +kernel
theorem ks11_267 : pk stab 11 267 = some 18 := by decide +kernel
theorem ks11_268 : pk stab 11 268 = some 19 := by decide +kernel
theorem ks11_269 : pk stab 11 269 = some 20 := by decide +kernel
theorem ks11_271 : pk stab 11 271 = some 21 := by decide +kernel
theorem ks11_359 : pk stab 11 359 = some 7 := by decide +kernel
theorem ks11_361 : pk stab 11 361 = some 8 := by decide +kernel
theorem ks11_385 : pk stab 11 385 = some 5 := by decide +kernel
theorem ks11_390 : pk stab 11 390 = some 3 := by decide +kernel
theorem ks11_392 : pk stab 11 392 = some 4 := by decide +kernel
