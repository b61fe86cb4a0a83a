/-! classes by number, the cells by number (objects: class, slots: 0 int, 1 long, r + 2 a reference to cell r; arrays: sort, length), methods by number -/
abbrev ShC : Type := (Nat × List Nat) ⊕ (Nat × Nat)
def cnmL : List String := [RX0, RX1, RX2, RX3, RX4, RX5, RX6, RX7, RX8, RX9, RX10, RJ0, RJ1, RJ2, RJ7, RJ3, RL]
def cnm (k : Nat) : String := cnmL.getD k ""
def clsL : List vw_C := [(RX0, TX0, 7), (RX1, TX1, 7), (RX2, TX2, 7), (RX3, TX3, 12), (RX4, TX4, 14), (RX5, TX5, 14), (RX6, TX6, 2), (RX7, TX7, 4), (RX8, TX8, 14), (RX9, TX9, 7), (RX10, TX10, 50)]
def tyL : List (Nat → FieldType) := [tyX0, tyX1, tyX2, tyX3, tyX4, tyX5, tyX6, tyX7, tyX8, tyX9, tyX10]
def shp : List ShC := [.inl (9, [3, 13, 15, 22, 34, 40, 50]), .inl (8, [4, 5, 6, 7, 8, 9, 10, 11, 12, 0, 0, 0, 0, 0]), .inr (0, 16), .inr (0, 16), .inr (0, 16), .inr (1, 16), .inr (0, 16), .inr (0, 16), .inr (0, 8), .inr (0, 128), .inr (0, 64), .inl (6, [14, 0]), .inr (0, 800), .inl (0, [16, 17, 18, 19, 20, 21, 0]), .inr (0, 20), .inr (0, 20), .inr (0, 20), .inr (0, 20), .inr (0, 20), .inr (0, 20), .inl (3, [23, 27, 0, 0, 0, 0, 0, 0, 0, 0, 0, 0]), .inl (2, [13, 24, 25, 26, 0, 0, 0]), .inr (0, 801), .inr (0, 801), .inr (0, 801), .inl (0, [28, 29, 30, 31, 32, 33, 0]), .inr (0, 20), .inr (0, 20), .inr (0, 20), .inr (0, 20), .inr (0, 20), .inr (0, 20), .inl (5, [3, 15, 36, 38, 35, 0, 0, 0, 0, 0, 0, 0, 0, 0]), .inr (0, 19520), .inl (7, [3, 15, 37, 0]), .inr (0, 32), .inl (7, [3, 15, 39, 0]), .inr (0, 32), .inl (4, [3, 41, 42, 43, 44, 45, 46, 47, 48, 49, 0, 0, 0, 0]), .inr (0, 8), .inr (0, 8), .inr (0, 3), .inr (0, 2048), .inr (0, 8), .inr (0, 3), .inr (0, 8), .inr (0, 8), .inr (0, 8), .inl (1, [51, 52, 53, 54, 55, 0, 0]), .inr (0, 60), .inr (0, 60), .inr (0, 60), .inr (0, 60), .inr (0, 60), .inl (10, [57, 58, 59, 60, 0, 0, 0, 0, 0, 61, 62, 0, 0, 0, 0, 0, 0, 0, 0, 1, 63, 64, 65, 66, 67, 68, 0, 0, 69, 0, 0, 0, 70, 71, 72, 73, 74, 75, 76, 77, 78, 0, 0, 79, 80, 81, 82, 83, 0, 0]), .inr (0, 16), .inr (0, 16), .inr (0, 16), .inr (1, 16), .inr (2, 820), .inr (2, 800), .inr (0, 2), .inr (0, 40), .inr (0, 40), .inr (0, 40), .inr (0, 40), .inr (0, 40), .inr (0, 96032), .inr (0, 64), .inr (0, 8), .inr (0, 8), .inr (0, 3), .inr (0, 2048), .inr (0, 8), .inr (0, 8), .inr (0, 8), .inr (0, 8), .inr (0, 60), .inr (0, 60), .inr (0, 60), .inr (0, 60), .inr (0, 60)]
abbrev MI : Type := MethodName × ByteArray × Nat × Option FieldType × Nat × Nat × Bool × Nat × Nat
def mtab : List MI := [(yX0_size, cX0_size, 1, (some .int), 0, 0, false, 1, 60),
  (yX0_isFull, cX0_isFull, 1, (some .boolean), 0, 0, false, 1, 60),
  (yX0_clear, cX0_clear, 1, none, 0, 0, false, 1, 60),
  (yX0_add, cX0_add, 7, none, 0, 6, false, 2, 80),
  (yX0_copyFrom, cX0_copyFrom, 2, none, 0, 1, false, 1, 60),
  (yX0_permits, cX0_permits, 5, (some .boolean), 0, 3, false, 2, 84),
  (yX0_speedOn, cX0_speedOn, 5, (some .int), 0, 3, false, 2, 84),
  (yX0_isFor, cX0_isFor, 5, (some .boolean), 0, 4, false, 1, 60),
  (yX0_nextChange, cX0_nextChange, 4, (some .int), 0, 1, false, 1, 60),
  (yX0_lastChange, cX0_lastChange, 3, (some .int), 0, 0, false, 1, 60),
  (yX1_size, cX1_size, 1, (some .int), 1, 0, false, 1, 60),
  (yX1_today, cX1_today, 1, (some .int), 1, 0, false, 1, 60),
  (yX1_goOn, cX1_goOn, 2, (some .int), 1, 1, false, 1, 60),
  (yX1_add, cX1_add, 4, (some .int), 1, 3, false, 1, 60),
  (yX1_takeBack, cX1_takeBack, 2, (some .boolean), 1, 1, false, 1, 60),
  (yX1_sum, cX1_sum, 7, (some .int), 1, 4, false, 3, 107),
  (yX1_known, cX1_known, 5, (some .int), 1, 3, false, 2, 83),
  (yX1_isKnown, cX1_isKnown, 4, (some .boolean), 1, 2, false, 1, 60),
  (yX1_compare, cX1_compare, 10, (some .int), 1, 3, false, 4, 133),
  (yX2_sortOf, cX2_sortOf, 2, (some .int), 2, 1, false, 1, 60),
  (yX2_startOf, cX2_startOf, 2, (some .int), 2, 1, false, 1, 60),
  (yX2_valueOf, cX2_valueOf, 2, (some .int), 2, 1, false, 1, 60),
  (yX2_cut, cX2_cut, 3, none, 2, 0, false, 8, 208),
  (yX2_skipBlanks, cX2_skipBlanks, 1, none, 2, 0, false, 2, 81),
  (yX2_read, cX2_read, 2, (some .int), 2, 0, false, 7, 187),
  (yX2_readStreet, cX2_readStreet, 3, (some .boolean), 2, 0, false, 3, 102),
  (yX2_readNumber, cX2_readNumber, 2, (some .int), 2, 0, false, 3, 102),
  (yX2_readDigits, cX2_readDigits, 2, (some .int), 2, 1, false, 2, 81),
  (yX2_skipLetters, cX2_skipLetters, 1, none, 2, 0, false, 2, 81),
  (yX2_wordSort, cX2_wordSort, 1, (some .int), 2, 0, false, 6, 167),
  (yX2_isWord, cX2_isWord, 3, (some .boolean), 2, 1, false, 5, 145),
  (yX2_isBlank, cX2_isBlank, 1, (some .boolean), 2, 1, true, 1, 60),
  (yX2_isLetter, cX2_isLetter, 1, (some .boolean), 2, 1, true, 1, 60),
  (yX2_isDigit, cX2_isDigit, 1, (some .boolean), 2, 1, true, 1, 60),
  (yX3_draft, cX3_draft, 1, (some (.object "CrossDawn$Book")), 3, 0, false, 1, 60),
  (yX3_faultKind, cX3_faultKind, 1, (some .int), 3, 0, false, 1, 60),
  (yX3_faultPlace, cX3_faultPlace, 1, (some .int), 3, 0, false, 1, 60),
  (yX3_parse, cX3_parse, 3, (some .boolean), 3, 0, false, 9, 230),
  (yX3_faultHere, cX3_faultHere, 1, (some .int), 3, 0, false, 3, 101),
  (yX3_sortHere, cX3_sortHere, 1, (some .int), 3, 0, false, 2, 81),
  (yX3_readAct, cX3_readAct, 4, (some .boolean), 3, 0, false, 5, 143),
  (yX3_readLimitHead, cX3_readLimitHead, 1, (some .boolean), 3, 0, false, 4, 123),
  (yX3_readKind, cX3_readKind, 2, (some .boolean), 3, 0, false, 3, 101),
  (yX3_readStreet, cX3_readStreet, 1, (some .boolean), 3, 0, false, 4, 122),
  (yX3_readSpan, cX3_readSpan, 1, (some .boolean), 3, 0, false, 4, 123),
  (yX3_readNumber, cX3_readNumber, 3, (some .boolean), 3, 2, false, 3, 101),
  (yX3_readOver, cX3_readOver, 2, (some .boolean), 3, 1, false, 3, 101),
  (yX4_signCount, cX4_signCount, 1, (some .int), 4, 0, false, 1, 60),
  (yX4_crewCount, cX4_crewCount, 1, (some .int), 4, 0, false, 1, 60),
  (yX4_hasSign, cX4_hasSign, 2, (some .boolean), 4, 1, false, 1, 60),
  (yX4_crewOf, cX4_crewOf, 2, (some .int), 4, 1, false, 1, 60),
  (yX4_countAhead, cX4_countAhead, 2, (some .int), 4, 1, false, 1, 60),
  (yX4_minuteTurned, cX4_minuteTurned, 2, (some .int), 4, 1, false, 1, 60),
  (yX4_forget, cX4_forget, 1, none, 4, 0, false, 1, 60),
  (yX4_addSign, cX4_addSign, 3, (some .int), 4, 2, false, 2, 80),
  (yX4_addCrew, cX4_addCrew, 2, (some .int), 4, 1, false, 2, 80),
  (yX4_leastMinutes, cX4_leastMinutes, 2, (some .int), 4, 0, false, 6, 177),
  (yX4_fillNeeds, cX4_fillNeeds, 3, none, 4, 0, false, 5, 151),
  (yX4_needBySigns, cX4_needBySigns, 5, (some .int), 4, 2, false, 4, 127),
  (yX4_needIfFirst, cX4_needIfFirst, 4, (some .int), 4, 3, false, 3, 104),
  (yX4_step, cX4_step, 3, (some .int), 4, 2, false, 2, 82),
  (yX4_need, cX4_need, 3, (some .int), 4, 2, false, 1, 60),
  (yX4_holds, cX4_holds, 2, (some .boolean), 4, 2, true, 1, 60),
  (yX4_shareOut, cX4_shareOut, 5, none, 4, 0, false, 3, 105),
  (yX4_weighTrial, cX4_weighTrial, 3, (some .int), 4, 0, false, 2, 83),
  (yX4_nextTrial, cX4_nextTrial, 2, none, 4, 0, false, 1, 60),
  (yX4_layOrder, cX4_layOrder, 7, none, 4, 1, false, 5, 151),
  (yX4_firstOfBest, cX4_firstOfBest, 5, (some .int), 4, 2, false, 4, 127),
  (yX5_minutes, cX5_minutes, 1, (some .int), 5, 0, false, 1, 60),
  (yX5_streetCount, cX5_streetCount, 1, (some .int), 5, 0, false, 1, 60),
  (yX5_forget, cX5_forget, 1, none, 5, 0, false, 1, 60),
  (yX5_seek, cX5_seek, 5, none, 5, 4, false, 6, 182),
  (yX5_isKnown, cX5_isKnown, 5, (some .boolean), 5, 4, false, 1, 60),
  (yX5_search, cX5_search, 3, none, 5, 0, false, 5, 160),
  (yX5_setOut, cX5_setOut, 3, none, 5, 0, false, 4, 134),
  (yX5_enter, cX5_enter, 7, none, 5, 4, false, 1, 60),
  (yX5_goOn, cX5_goOn, 7, none, 5, 2, false, 4, 134),
  (yX5_arrive, cX5_arrive, 3, none, 5, 2, false, 1, 60),
  (yX5_leave, cX5_leave, 12, none, 5, 3, false, 3, 103),
  (yX6_length, cX6_length, 1, (some .int), 6, 0, false, 1, 60),
  (yX6_hasRoomFor, cX6_hasRoomFor, 2, (some .boolean), 6, 1, false, 1, 60),
  (yX6_put, cX6_put, 3, none, 6, 1, false, 1, 60),
  (yX6_cutTo, cX6_cutTo, 2, none, 6, 1, false, 1, 60),
  (yX6_at, cX6_at, 2, (some .int), 6, 1, false, 1, 60),
  (yX7_minutesOn, cX7_minutesOn, 2, (some .int), 7, 1, false, 1, 60),
  (yX7_begin, cX7_begin, 1, none, 7, 0, false, 1, 60),
  (yX7_moveTo, cX7_moveTo, 7, none, 7, 2, false, 3, 108),
  (yX8_crossingCount, cX8_crossingCount, 1, (some .int), 8, 0, false, 1, 60),
  (yX8_streetCount, cX8_streetCount, 1, (some .int), 8, 0, false, 1, 60),
  (yX8_hourMinute, cX8_hourMinute, 1, (some .int), 8, 0, false, 1, 60),
  (yX8_hasCrossing, cX8_hasCrossing, 2, (some .boolean), 8, 1, false, 1, 60),
  (yX8_hasStreet, cX8_hasStreet, 2, (some .boolean), 8, 1, false, 1, 60),
  (yX8_setHour, cX8_setHour, 2, none, 8, 1, false, 1, 60),
  (yX8_setCorners, cX8_setCorners, 3, none, 8, 2, false, 1, 60),
  (yX8_addCrossing, cX8_addCrossing, 1, (some .int), 8, 0, false, 1, 60),
  (yX8_addStreet, cX8_addStreet, 6, (some .int), 8, 4, false, 3, 112),
  (yX8_layAround, cX8_layAround, 4, (some .int), 8, 2, false, 1, 60),
  (yX8_shortenFootWays, cX8_shortenFootWays, 11, none, 8, 3, false, 2, 82),
  (yX8_footMinutes, cX8_footMinutes, 3, (some .int), 8, 2, false, 1, 60),
  (yX8_touches, cX8_touches, 3, (some .boolean), 8, 2, false, 2, 81),
  (yX8_degree, cX8_degree, 2, (some .int), 8, 1, false, 1, 60),
  (yX8_laneAround, cX8_laneAround, 3, (some .int), 8, 2, false, 1, 60),
  (yX8_lengthOf, cX8_lengthOf, 2, (some .int), 8, 1, false, 1, 60),
  (yX8_laneEnd, cX8_laneEnd, 2, (some .int), 8, 1, false, 1, 60),
  (yX8_isOpen, cX8_isOpen, 4, (some .boolean), 8, 2, false, 2, 81),
  (yX8_isOnRight, cX8_isOnRight, 2, (some .boolean), 8, 1, false, 1, 60),
  (yX8_nearStep, cX8_nearStep, 3, (some .int), 8, 2, false, 2, 81),
  (yX8_isNear, cX8_isNear, 6, (some .boolean), 8, 4, false, 3, 103),
  (yX8_placeAt, cX8_placeAt, 3, (some .int), 8, 2, false, 1, 60),
  (yX8_turnMinutes, cX8_turnMinutes, 2, (some .int), 8, 1, false, 1, 60),
  (yX9_crossing, cX9_crossing, 1, (some .int), 9, 0, false, 2, 80),
  (yX9_street, cX9_street, 6, (some .int), 9, 4, false, 4, 137),
  (yX9_hour, cX9_hour, 2, (some .boolean), 9, 1, false, 3, 102),
  (yX9_corners, cX9_corners, 3, (some .boolean), 9, 2, false, 2, 82),
  (yX9_turn, cX9_turn, 5, (some .int), 9, 4, false, 4, 128),
  (yX9_feed, cX9_feed, 6, (some .int), 9, 5, false, 2, 82),
  (yX9_end, cX9_end, 2, (some .int), 9, 1, false, 2, 81),
  (yX9_acts, cX9_acts, 2, (some .int), 9, 0, false, 10, 252),
  (yX9_fault, cX9_fault, 2, (some .int), 9, 1, false, 2, 80),
  (yX9_may, cX9_may, 4, (some .int), 9, 3, false, 3, 108),
  (yX9_speed, cX9_speed, 4, (some .int), 9, 3, false, 3, 108),
  (yX9_fastest, cX9_fastest, 5, (some .int), 9, 4, false, 7, 206),
  (yX9_streets, cX9_streets, 5, (some .int), 9, 4, false, 7, 206),
  (yX9_sign, cX9_sign, 3, (some .int), 9, 2, false, 3, 102),
  (yX9_crew, cX9_crew, 2, (some .int), 9, 1, false, 3, 101),
  (yX9_walk, cX9_walk, 4, (some .int), 9, 2, false, 2, 82),
  (yX9_done, cX9_done, 1, (some .int), 9, 0, false, 7, 198),
  (yX9_order, cX9_order, 3, (some .int), 9, 2, false, 7, 198),
  (yX9_later, cX9_later, 2, (some .int), 9, 1, false, 2, 82),
  (yX9_tell, cX9_tell, 4, (some .int), 9, 3, false, 3, 102),
  (yX9_untell, cX9_untell, 2, (some .boolean), 9, 1, false, 2, 81),
  (yX9_harms, cX9_harms, 5, (some .int), 9, 4, false, 4, 133),
  (yX9_differ, cX9_differ, 4, (some .int), 9, 3, false, 5, 162),
  (yX9_about, cX9_about, 2, (some .int), 9, 1, false, 2, 80),
  (yX9_isQuestion, cX9_isQuestion, 5, (some .boolean), 9, 4, false, 3, 102),
  (yX9_isKind, cX9_isKind, 1, (some .boolean), 9, 1, true, 2, 82),
  (yX9_isMinute, cX9_isMinute, 1, (some .boolean), 9, 1, true, 2, 82),
  (yX9_isWeek, cX9_isWeek, 1, (some .boolean), 9, 1, true, 2, 82),
  (yX9_isWithin, cX9_isWithin, 3, (some .boolean), 9, 3, true, 1, 60),
  (yX10_isCrossing, cX10_isCrossing, 2, (some .boolean), 10, 1, false, 1, 60),
  (yX10_isStreet, cX10_isStreet, 2, (some .boolean), 10, 1, false, 1, 60),
  (yX10_crossing, cX10_crossing, 1, (some .int), 10, 0, false, 1, 60),
  (yX10_street, cX10_street, 5, (some .int), 10, 4, false, 2, 81),
  (yX10_hour, cX10_hour, 2, (some .boolean), 10, 1, false, 1, 60),
  (yX10_corners, cX10_corners, 3, (some .boolean), 10, 2, false, 1, 60),
  (yX10_within, cX10_within, 1, (some .int), 10, 1, true, 1, 60),
  (yX10_isLeft, cX10_isLeft, 2, (some .boolean), 10, 1, false, 2, 80),
  (yX10_lies, cX10_lies, 3, (some .boolean), 10, 2, false, 1, 60),
  (yX10_rank, cX10_rank, 5, (some .int), 10, 2, false, 2, 82),
  (yX10_turnTakes, cX10_turnTakes, 7, (some .int), 10, 4, false, 3, 106),
  (yX10_turn, cX10_turn, 5, (some .int), 10, 4, false, 4, 132),
  (yX10_byteAt, cX10_byteAt, 2, (some .int), 10, 1, false, 1, 60),
  (yX10_isLetter, cX10_isLetter, 1, (some .boolean), 10, 1, true, 1, 60),
  (yX10_isDigit, cX10_isDigit, 1, (some .boolean), 10, 1, true, 1, 60),
  (yX10_fails, cX10_fails, 3, none, 10, 2, false, 1, 60),
  (yX10_isGood, cX10_isGood, 1, (some .boolean), 10, 0, false, 1, 60),
  (yX10_streetAt, cX10_streetAt, 4, (some .int), 10, 1, false, 2, 81),
  (yX10_next, cX10_next, 3, none, 10, 0, false, 3, 104),
  (yX10_isWord, cX10_isWord, 3, (some .boolean), 10, 1, false, 1, 60),
  (yX10_wrong, cX10_wrong, 1, none, 10, 0, false, 2, 82),
  (yX10_must, cX10_must, 2, none, 10, 1, false, 4, 126),
  (yX10_kindHere, cX10_kindHere, 1, (some .int), 10, 0, false, 2, 82),
  (yX10_acts, cX10_acts, 2, (some .int), 10, 0, false, 6, 171),
  (yX10_numeral, cX10_numeral, 4, (some .int), 10, 2, false, 4, 126),
  (yX10_readAct, cX10_readAct, 3, none, 10, 0, false, 5, 149),
  (yX10_fault, cX10_fault, 2, (some .int), 10, 1, false, 1, 60),
  (yX10_isFor, cX10_isFor, 5, (some .boolean), 10, 4, false, 1, 60),
  (yX10_mayDrive, cX10_mayDrive, 6, (some .boolean), 10, 3, false, 2, 84),
  (yX10_speedOf, cX10_speedOf, 6, (some .int), 10, 3, false, 2, 84),
  (yX10_isKind, cX10_isKind, 1, (some .boolean), 10, 1, true, 1, 60),
  (yX10_isMinute, cX10_isMinute, 1, (some .boolean), 10, 1, true, 1, 60),
  (yX10_may, cX10_may, 4, (some .int), 10, 3, false, 3, 109),
  (yX10_speed, cX10_speed, 4, (some .int), 10, 3, false, 3, 109),
  (yX10_spot, cX10_spot, 3, (some .int), 10, 3, true, 1, 60),
  (yX10_enters, cX10_enters, 10, none, 10, 4, false, 3, 109),
  (yX10_drive, cX10_drive, 9, (some .int), 10, 4, false, 5, 163),
  (yX10_goesOn, cX10_goesOn, 6, none, 10, 4, false, 4, 138),
  (yX10_fastest, cX10_fastest, 5, (some .int), 10, 4, false, 6, 191),
  (yX10_streets, cX10_streets, 6, (some .int), 10, 4, false, 7, 215),
  (yX10_measure, cX10_measure, 5, none, 10, 0, false, 1, 60),
  (yX10_walk, cX10_walk, 3, (some .int), 10, 2, false, 2, 84),
  (yX10_sign, cX10_sign, 3, (some .int), 10, 2, false, 2, 81),
  (yX10_crew, cX10_crew, 2, (some .int), 10, 1, false, 2, 81),
  (yX10_spotOf, cX10_spotOf, 2, (some .int), 10, 2, true, 1, 60),
  (yX10_reckon, cX10_reckon, 6, none, 10, 0, false, 2, 84),
  (yX10_setOf, cX10_setOf, 4, (some .int), 10, 1, false, 1, 60),
  (yX10_part, cX10_part, 6, (some .int), 10, 0, false, 3, 109),
  (yX10_done, cX10_done, 2, (some .int), 10, 0, false, 4, 134),
  (yX10_order, cX10_order, 4, (some .int), 10, 2, false, 4, 134),
  (yX10_lay, cX10_lay, 7, none, 10, 1, false, 2, 83),
  (yX10_later, cX10_later, 2, (some .int), 10, 1, false, 1, 60),
  (yX10_isWeek, cX10_isWeek, 1, (some .boolean), 10, 1, true, 1, 60),
  (yX10_tell, cX10_tell, 4, (some .int), 10, 3, false, 2, 80),
  (yX10_untell, cX10_untell, 2, (some .boolean), 10, 1, false, 1, 60),
  (yX10_of, cX10_of, 6, (some .int), 10, 3, false, 1, 60),
  (yX10_harms, cX10_harms, 7, (some .int), 10, 4, false, 2, 85),
  (yX10_differ, cX10_differ, 8, (some .int), 10, 3, false, 3, 111),
  (yX10_about, cX10_about, 2, (some .int), 10, 1, false, 1, 60),
  (yX10_feed, cX10_feed, 8, (some .int), 10, 5, false, 1, 60),
  (yX10_end, cX10_end, 2, (some .int), 10, 1, false, 1, 60),
  (yJ0_length_8abf5, cJ0_length_8abf5, 1, (some .int), 11, 0, false, 2, 80),
  (yJ0_charAt_5068e, cJ0_charAt_5068e, 2, (some .char), 11, 1, false, 4, 124),
  (yJ0_coder_7d493, cJ0_coder_7d493, 1, (some .byte), 11, 0, false, 1, 60),
  (yJ0_isLatin1_aae02, cJ0_isLatin1_aae02, 1, (some .boolean), 11, 0, false, 1, 60),
  (yJ0_checkIndex_df160, cJ0_checkIndex_df160, 2, none, 11, 2, true, 2, 82),
  (yJ1_charAt_3b067, cJ1_charAt_3b067, 2, (some .char), 12, 2, true, 3, 103),
  (yJ7_fill_53178, cJ7_fill_53178, 4, none, 14, 2, true, 1, 60),
  (yJ3_checkIndex_8e157, cJ3_checkIndex_8e157, 3, (some .int), 15, 3, true, 1, 60),
  (yL_law, cL_law, 4, (some .boolean), 16, 1, true, 13, 470)]
def mi (y : Nat) : MI := mtab.getD y (yX0_size, cX0_size, 0, none, 0, 0, false, 0, 0)
def lawN : Nat := 208
def nmo (y : Nat) : MethodName := (mi y).1
def cdo (y : Nat) : ByteArray := (mi y).2.1
def mxl (y : Nat) : Nat := (mi y).2.2.1
def rto (y : Nat) : Option FieldType := (mi y).2.2.2.1
def clo (y : Nat) : Nat := (mi y).2.2.2.2.1
def npo (y : Nat) : Nat := (mi y).2.2.2.2.2.1
def sto (y : Nat) : Bool := (mi y).2.2.2.2.2.2.1
def fro (y : Nat) : Nat := (mi y).2.2.2.2.2.2.2.1
def loo (y : Nat) : Nat := (mi y).2.2.2.2.2.2.2.2
def flkL : List ((Nat × Nat) × (Nat × Nat)) := [((0, 11), (0, 0)), ((0, 15), (0, 1)), ((0, 18), (0, 2)), ((0, 21), (0, 3)), ((0, 24), (0, 4)), ((0, 27), (0, 5)), ((0, 30), (0, 6)), ((1, 11), (1, 0)), ((1, 15), (1, 1)), ((1, 18), (1, 2)), ((1, 21), (1, 3)), ((1, 24), (1, 4)), ((1, 27), (1, 5)), ((1, 31), (1, 6)), ((2, 13), (2, 1)), ((2, 17), (2, 2)), ((2, 20), (2, 3)), ((2, 23), (2, 4)), ((2, 27), (2, 5)), ((2, 30), (2, 6)), ((2, 33), (2, 0)), ((3, 12), (3, 1)), ((3, 18), (3, 2)), ((3, 22), (3, 3)), ((3, 25), (3, 4)), ((3, 28), (3, 5)), ((3, 31), (3, 6)), ((3, 37), (3, 7)), ((3, 40), (3, 8)), ((3, 43), (3, 9)), ((3, 46), (3, 10)), ((3, 49), (3, 11)), ((3, 55), (3, 0)), ((4, 11), (4, 1)), ((4, 15), (4, 2)), ((4, 18), (4, 3)), ((4, 23), (4, 4)), ((4, 26), (4, 5)), ((4, 29), (4, 6)), ((4, 32), (4, 7)), ((4, 35), (4, 8)), ((4, 38), (4, 9)), ((4, 41), (4, 10)), ((4, 45), (4, 11)), ((4, 48), (4, 12)), ((4, 52), (4, 13)), ((4, 55), (4, 0)), ((5, 13), (5, 4)), ((5, 17), (5, 5)), ((5, 21), (5, 6)), ((5, 24), (5, 7)), ((5, 28), (5, 8)), ((5, 31), (5, 9)), ((5, 34), (5, 10)), ((5, 37), (5, 11)), ((5, 40), (5, 12)), ((5, 43), (5, 13)), ((5, 46), (5, 0)), ((5, 50), (5, 1)), ((5, 59), (5, 2)), ((5, 63), (5, 3)), ((6, 11), (6, 0)), ((6, 15), (6, 1)), ((7, 11), (7, 2)), ((7, 17), (7, 3)), ((7, 21), (7, 0)), ((7, 25), (7, 1)), ((8, 11), (8, 0)), ((8, 15), (8, 1)), ((8, 18), (8, 2)), ((8, 21), (8, 3)), ((8, 25), (8, 4)), ((8, 28), (8, 5)), ((8, 31), (8, 6)), ((8, 34), (8, 7)), ((8, 37), (8, 8)), ((8, 40), (8, 9)), ((8, 44), (8, 10)), ((8, 47), (8, 11)), ((8, 50), (8, 12)), ((8, 53), (8, 13)), ((9, 10), (9, 0)), ((9, 19), (9, 1)), ((9, 26), (9, 2)), ((9, 35), (9, 3)), ((9, 44), (9, 4)), ((9, 53), (9, 5)), ((9, 60), (9, 6)), ((10, 7), (10, 0)), ((10, 13), (10, 1)), ((10, 16), (10, 2)), ((10, 19), (10, 3)), ((10, 23), (10, 6)), ((10, 27), (10, 8)), ((10, 30), (10, 9)), ((10, 34), (10, 10)), ((10, 37), (10, 14)), ((10, 40), (10, 20)), ((10, 43), (10, 21)), ((10, 46), (10, 22)), ((10, 49), (10, 23)), ((10, 52), (10, 24)), ((10, 55), (10, 25)), ((10, 59), (10, 28)), ((10, 62), (10, 32)), ((10, 65), (10, 33)), ((10, 68), (10, 34)), ((10, 71), (10, 35)), ((10, 74), (10, 36)), ((10, 77), (10, 37)), ((10, 80), (10, 38)), ((10, 83), (10, 39)), ((10, 86), (10, 40)), ((10, 89), (10, 43)), ((10, 92), (10, 44)), ((10, 95), (10, 45)), ((10, 98), (10, 46)), ((10, 101), (10, 47)), ((10, 104), (10, 4)), ((10, 107), (10, 5)), ((10, 114), (10, 7)), ((10, 139), (10, 12)), ((10, 142), (10, 13)), ((10, 154), (10, 16)), ((10, 157), (10, 15)), ((10, 160), (10, 17)), ((10, 166), (10, 18)), ((10, 169), (10, 19)), ((10, 201), (10, 11)), ((10, 204), (10, 26)), ((10, 207), (10, 27)), ((10, 254), (10, 29)), ((10, 257), (10, 30)), ((10, 268), (10, 31)), ((10, 283), (10, 41)), ((10, 286), (10, 42)), ((10, 305), (10, 49)), ((10, 312), (10, 48))]
def flkP : List Nat := [171, 172, 173, 174, 175, 176, 177, 389, 390, 391, 392, 393, 394, 395, 208, 209, 210, 211, 212, 213, 207, 230, 231, 232, 233, 234, 235, 236, 237, 238, 239, 240, 229, 341, 342, 343, 344, 345, 346, 347, 348, 349, 350, 351, 352, 353, 340, 295, 296, 297, 298, 299, 300, 301, 302, 303, 304, 291, 292, 293, 294, 158, 159, 280, 281, 278, 279, 107, 108, 109, 110, 111, 112, 113, 114, 115, 116, 117, 118, 119, 120, 411, 412, 413, 414, 415, 416, 417, 1092, 1093, 1094, 1095, 1098, 1100, 1101, 1102, 1106, 1112, 1113, 1114, 1115, 1116, 1117, 1120, 1124, 1125, 1126, 1127, 1128, 1129, 1130, 1131, 1132, 1135, 1136, 1137, 1138, 1139, 1096, 1097, 1099, 1104, 1105, 1108, 1107, 1109, 1110, 1111, 1103, 1118, 1119, 1121, 1122, 1123, 1133, 1134, 1141, 1140]
def mlkL : List ((Nat × Nat) × Nat) := [((0, 34), 1), ((0, 38), 902), ((0, 46), 7), ((0, 53), 900), ((0, 59), 901), ((1, 35), 16), ((1, 39), 901), ((1, 45), 17), ((1, 49), 15), ((2, 37), 23), ((2, 40), 24), ((2, 44), 79), ((2, 47), 83), ((2, 51), 31), ((2, 55), 25), ((2, 59), 32), ((2, 62), 28), ((2, 65), 29), ((2, 68), 33), ((2, 71), 26), ((2, 74), 27), ((2, 81), 30), ((2, 105), 200), ((2, 108), 201), ((3, 59), 22), ((3, 62), 2), ((3, 65), 39), ((3, 69), 40), ((3, 73), 38), ((3, 76), 20), ((3, 80), 19), ((3, 83), 1), ((3, 86), 41), ((3, 89), 42), ((3, 92), 43), ((3, 95), 44), ((3, 98), 46), ((3, 102), 3), ((3, 106), 45), ((3, 110), 21), ((4, 59), 53), ((4, 62), 57), ((4, 65), 63), ((4, 68), 66), ((4, 72), 87), ((4, 76), 58), ((4, 81), 62), ((4, 85), 59), ((4, 89), 900), ((4, 94), 60), ((4, 97), 61), ((4, 100), 98), ((4, 103), 206), ((4, 109), 64), ((4, 112), 902), ((4, 118), 65), ((4, 121), 901), ((4, 124), 67), ((5, 66), 72), ((5, 70), 98), ((5, 75), 73), ((5, 78), 74), ((5, 81), 89), ((5, 85), 9), ((5, 90), 901), ((5, 95), 76), ((5, 99), 206), ((5, 105), 85), ((5, 108), 86), ((5, 112), 100), ((5, 116), 101), ((5, 119), 84), ((5, 122), 75), ((5, 126), 900), ((5, 129), 109), ((5, 133), 88), ((5, 135), 103), ((5, 138), 77), ((5, 141), 78), ((5, 145), 106), ((5, 148), 108), ((7, 29), 900), ((7, 35), 88), ((7, 39), 6), ((7, 45), 104), ((7, 49), 5), ((7, 53), 102), ((7, 57), 8), ((7, 60), 89), ((8, 57), 206), ((8, 63), 90), ((8, 67), 96), ((8, 71), 97), ((8, 75), 98), ((8, 78), 900), ((8, 83), 91), ((8, 86), 105), ((8, 89), 108), ((8, 92), 106), ((9, 64), 94), ((9, 68), 95), ((9, 72), 70), ((9, 75), 53), ((9, 76), 136), ((9, 80), 92), ((9, 84), 138), ((9, 88), 93), ((9, 92), 99), ((9, 96), 107), ((9, 100), 109), ((9, 104), 80), ((9, 107), 81), ((9, 110), 79), ((9, 113), 82), ((9, 116), 37), ((9, 120), 34), ((9, 124), 4), ((9, 128), 0), ((9, 131), 35), ((9, 134), 36), ((9, 137), 135), ((9, 140), 91), ((9, 143), 5), ((9, 146), 6), ((9, 150), 134), ((9, 153), 71), ((9, 157), 68), ((9, 160), 69), ((9, 163), 90), ((9, 166), 54), ((9, 170), 55), ((9, 174), 98), ((9, 178), 56), ((9, 181), 49), ((9, 184), 50), ((9, 187), 51), ((9, 190), 52), ((9, 193), 12), ((9, 196), 137), ((9, 199), 13), ((9, 202), 14), ((9, 205), 15), ((9, 209), 18), ((9, 212), 87), ((9, 215), 88), ((9, 216), 89), ((9, 219), 47), ((9, 222), 48), ((9, 225), 11), ((9, 228), 10), ((10, 110), 139), ((10, 117), 145), ((10, 121), 147), ((10, 125), 148), ((10, 129), 146), ((10, 132), 140), ((10, 135), 149), ((10, 145), 151), ((10, 148), 153), ((10, 151), 152), ((10, 163), 156), ((10, 173), 154), ((10, 177), 155), ((10, 181), 157), ((10, 184), 159), ((10, 189), 158), ((10, 210), 164), ((10, 219), 163), ((10, 222), 161), ((10, 226), 160), ((10, 236), 166), ((10, 240), 169), ((10, 243), 170), ((10, 246), 167), ((10, 250), 168), ((10, 260), 173), ((10, 263), 174), ((10, 271), 176), ((10, 274), 175), ((10, 277), 177), ((10, 280), 179), ((10, 289), 183), ((10, 292), 184), ((10, 295), 185), ((10, 298), 186), ((10, 301), 189), ((10, 309), 191), ((10, 315), 194), ((10, 318), 195), ((11, 335), 202), ((11, 492), 203), ((11, 495), 205), ((11, 1059), 207), ((12, 9), 204), ((13, 414), 204), ((16, 13), 110), ((16, 17), 141), ((16, 18), 111), ((16, 22), 142), ((16, 23), 112), ((16, 27), 143), ((16, 28), 113), ((16, 32), 144), ((16, 33), 114), ((16, 37), 150), ((16, 38), 115), ((16, 42), 198), ((16, 43), 116), ((16, 47), 199), ((16, 48), 117), ((16, 51), 162), ((16, 52), 118), ((16, 55), 165), ((16, 56), 119), ((16, 60), 171), ((16, 61), 120), ((16, 64), 172), ((16, 65), 121), ((16, 68), 177), ((16, 69), 122), ((16, 72), 178), ((16, 73), 123), ((16, 77), 181), ((16, 78), 124), ((16, 81), 182), ((16, 82), 125), ((16, 85), 180), ((16, 86), 126), ((16, 89), 187), ((16, 90), 127), ((16, 93), 188), ((16, 94), 128), ((16, 97), 190), ((16, 98), 129), ((16, 101), 192), ((16, 102), 130), ((16, 105), 193), ((16, 106), 131), ((16, 109), 195), ((16, 110), 132), ((16, 113), 196), ((16, 114), 133), ((16, 117), 197)]
def mlkP : List Nat := [723, 740, 772, 840, 867, 1043, 1051, 1047, 1060, 566, 578, 570, 571, 575, 582, 593, 596, 600, 590, 667, 586, 605, 609, 619, 562, 671, 675, 683, 724, 728, 679, 687, 691, 703, 707, 715, 711, 719, 695, 699, 911, 934, 964, 979, 938, 942, 947, 950, 963, 954, 959, 958, 968, 969, 974, 975, 973, 983, 797, 801, 803, 807, 862, 863, 870, 871, 811, 812, 816, 845, 849, 853, 857, 861, 875, 876, 877, 881, 885, 889, 890, 820, 821, 825, 826, 830, 831, 835, 841, 104, 449, 453, 457, 461, 465, 506, 522, 514, 518, 437, 445, 468, 472, 480, 486, 483, 494, 502, 510, 526, 534, 538, 542, 550, 558, 732, 736, 743, 752, 756, 764, 767, 768, 780, 788, 793, 891, 899, 792, 907, 916, 924, 930, 991, 995, 999, 1003, 1011, 1020, 1023, 1031, 1039, 1056, 1066, 1067, 1068, 1069, 1073, 1077, 1081, 1251, 1287, 1271, 1279, 1283, 1267, 1275, 1298, 1306, 1309, 1302, 1331, 1312, 1294, 1327, 1321, 1316, 1335, 1339, 1348, 1373, 1363, 1366, 1369, 1381, 1397, 1393, 1401, 1389, 1409, 1414, 1438, 1434, 1441, 1430, 1449, 1462, 1473, 1481, 613, 623, 627, 635, 630, 647, 433, 1243, 441, 1247, 476, 1255, 490, 1259, 498, 1263, 530, 1487, 546, 1491, 554, 1290, 748, 1355, 760, 1359, 776, 1377, 784, 1385, 895, 1405, 903, 1418, 912, 1422, 920, 1410, 926, 1426, 987, 1445, 1007, 1453, 1016, 1458, 1027, 1465, 1035, 1469, 1052, 1477, 1062, 1483]
def metP : List (List Nat) := [[746, 75, 744, 745], [690, 75, 688, 689], [674, 75, 672, 673], [722, 75, 720, 721], [739, 75, 737, 738], [771, 75, 769, 770], [783, 75, 781, 782], [775, 75, 774, 20], [838, 75, 836, 837], [866, 75, 864, 865], [1084, 81, 1082, 1083], [1080, 81, 1078, 1079], [1014, 81, 1012, 1013], [1026, 81, 1024, 1025], [1034, 81, 1032, 1033], [1042, 81, 1040, 1041], [1046, 81, 1045, 39], [1050, 81, 1049, 40], [1059, 81, 1057, 1058], [682, 77, 680, 681], [731, 77, 729, 730], [702, 77, 700, 701], [565, 77, 563, 564], [569, 77, 568, 3], [581, 77, 580, 4], [585, 77, 584, 5], [670, 77, 669, 10], [589, 77, 588, 6], [599, 77, 598, 7], [603, 77, 602, 8], [608, 77, 607, 9], [577, 77, 576, 0], [595, 77, 594, 0], [592, 77, 591, 0], [735, 76, 733, 734], [755, 76, 753, 754], [759, 76, 757, 758], [561, 76, 559, 560], [727, 76, 726, 19], [678, 76, 677, 11], [686, 76, 685, 12], [694, 76, 693, 13], [706, 76, 705, 15], [710, 76, 709, 16], [718, 76, 717, 18], [698, 76, 697, 14], [714, 76, 713, 17], [1072, 80, 1070, 1071], [1076, 80, 1074, 1075], [994, 80, 992, 993], [998, 80, 996, 997], [1002, 80, 1000, 1001], [1006, 80, 1004, 1005], [475, 80, 473, 474], [910, 80, 908, 909], [919, 80, 917, 918], [933, 80, 931, 932], [937, 80, 936, 29], [945, 80, 944, 30], [953, 80, 952, 31], [957, 80, 956, 32], [962, 80, 961, 33], [949, 80, 948, 0], [967, 80, 966, 34], [972, 80, 971, 35], [978, 80, 977, 36], [982, 80, 981, 37], [986, 80, 985, 38], [894, 78, 892, 893], [902, 78, 900, 901], [471, 78, 469, 470], [796, 78, 794, 795], [800, 78, 799, 22], [806, 78, 805, 23], [810, 78, 809, 24], [860, 78, 859, 25], [874, 78, 873, 26], [884, 78, 883, 27], [888, 78, 887, 28], [545, 74, 543, 544], [537, 74, 535, 536], [541, 74, 539, 540], [553, 74, 551, 552], [574, 74, 572, 573], [856, 79, 854, 855], [815, 79, 813, 814], [819, 79, 817, 818], [941, 72, 939, 940], [824, 72, 822, 823], [844, 72, 842, 843], [452, 72, 450, 451], [509, 72, 507, 508], [489, 72, 487, 488], [497, 72, 495, 496], [440, 72, 438, 439], [448, 72, 446, 447], [456, 72, 455, 0], [460, 72, 459, 1], [464, 72, 462, 463], [505, 72, 503, 504], [848, 72, 846, 847], [852, 72, 850, 851], [834, 72, 832, 833], [880, 72, 878, 879], [829, 72, 827, 828], [525, 72, 524, 2], [521, 72, 519, 520], [513, 72, 511, 512], [517, 72, 515, 516], [529, 72, 527, 528], [436, 71, 434, 435], [444, 71, 442, 443], [479, 71, 477, 478], [493, 71, 491, 492], [501, 71, 499, 500], [533, 71, 531, 532], [549, 71, 547, 548], [557, 71, 555, 556], [751, 71, 749, 750], [763, 71, 761, 762], [779, 71, 777, 778], [787, 71, 785, 786], [898, 71, 896, 897], [906, 71, 904, 905], [915, 71, 913, 914], [923, 71, 921, 922], [929, 71, 927, 928], [990, 71, 988, 989], [1010, 71, 1008, 1009], [1019, 71, 1017, 1018], [1030, 71, 1028, 1029], [1038, 71, 1036, 1037], [1055, 71, 1053, 1054], [1065, 71, 1063, 1064], [791, 71, 790, 21], [766, 71, 765, 0], [482, 71, 481, 0], [1022, 71, 1021, 0], [485, 71, 484, 0], [1254, 82, 1253, 41], [1270, 82, 1269, 42], [1246, 82, 1244, 1245], [1250, 82, 1248, 1249], [1258, 82, 1256, 1257], [1262, 82, 1260, 1261], [1289, 82, 1288, 0], [1286, 82, 1285, 46], [1274, 82, 1273, 43], [1282, 82, 1281, 45], [1278, 82, 1277, 44], [1266, 82, 1264, 1265], [1301, 82, 1300, 48], [1311, 82, 1310, 0], [1308, 82, 1307, 0], [1334, 82, 1333, 54], [1315, 82, 1314, 50], [1305, 82, 1304, 49], [1297, 82, 1296, 47], [1324, 82, 1323, 52], [1330, 82, 1329, 53], [1351, 82, 1350, 57], [1342, 82, 1341, 56], [1293, 82, 1291, 1292], [1338, 82, 1337, 55], [1319, 82, 1318, 51], [1358, 82, 1356, 1357], [1376, 82, 1375, 59], [1372, 82, 1371, 58], [1384, 82, 1383, 60], [1365, 82, 1364, 0], [1368, 82, 1367, 0], [1362, 82, 1360, 1361], [1380, 82, 1378, 1379], [1399, 82, 1398, 0], [1396, 82, 1395, 62], [1392, 82, 1391, 61], [1404, 82, 1403, 63], [1388, 82, 1386, 1387], [1408, 82, 1406, 1407], [1417, 82, 1416, 64], [1413, 82, 1411, 1412], [1421, 82, 1419, 1420], [1425, 82, 1423, 1424], [1440, 82, 1439, 0], [1437, 82, 1436, 66], [1444, 82, 1443, 67], [1433, 82, 1432, 65], [1429, 82, 1427, 1428], [1448, 82, 1446, 1447], [1452, 82, 1451, 68], [1456, 82, 1454, 1455], [1464, 82, 1463, 0], [1461, 82, 1459, 1460], [1468, 82, 1466, 1467], [1476, 82, 1475, 69], [1472, 82, 1470, 1471], [1480, 82, 1478, 1479], [1486, 82, 1484, 1485], [1490, 82, 1488, 1489], [1494, 82, 1492, 1493], [612, 84, 610, 611], [622, 84, 620, 621], [616, 84, 614, 615], [626, 84, 624, 625], [632, 84, 631, 0], [629, 85, 628, 0], [106, 73, 105, 0], [637, 86, 636, 0]]
def conL : List ((Nat × Nat) × Int) := [((0, 52), 2147483647), ((1, 34), 100000), ((4, 80), 1000000), ((5, 74), 1000000), ((8, 56), 1000000), ((9, 177), 1000000), ((10, 58), 96032), ((10, 267), 1000000), ((10, 308), 100000)]
def colL : List ((Nat × Nat) × Int) := [((1, 53), 4), ((10, 187), 6513010), ((10, 193), 6452595), ((10, 195), 500136502123), ((10, 197), 1651075941), ((10, 199), 6384748), ((10, 213), 7168377), ((10, 215), 7237492), ((10, 217), 465625246068), ((10, 230), 28526), ((10, 232), 1718775661), ((10, 234), 29807), ((10, 321), 4)]
def sIdx : List Nat := [79, 85, 87, 89, 91, 93, 95, 97, 99, 101, 103]
def sTx : List String := ["car", "bus", "truck", "bike", "all", "on", "from", "to", "may", "not", "limit"]
def sLen : List Nat := [3, 3, 5, 4, 3, 2, 4, 2, 3, 3, 5]
def sByt : List (List Int32) := [[99, 97, 114], [98, 117, 115], [116, 114, 117, 99, 107], [98, 105, 107, 101], [97, 108, 108], [111, 110], [102, 114, 111, 109], [116, 111], [109, 97, 121], [110, 111, 116], [108, 105, 109, 105, 116]]
def lkp {β : Type} (L : List ((Nat × Nat) × β)) (c i : Nat) : Option β := (L.find? (fun e => e.1.1 == c && e.1.2 == i)).map (·.2)
def gt : List Cond := lw_tbl.filter goodWord
def inT (w : Cond) : Bool := decide (w ∈ lw_tbl) && goodWord w
theorem inT_gt {w : Cond} (h : inT w = true) : w ∈ gt := by
  simp only [inT, Bool.and_eq_true, decide_eq_true_eq] at h
  exact List.mem_filter.mpr h
def inAt (i : Nat) (w : Cond) : Bool := (match lw_tbl[i]? with
  | some w' => decide (w' = w)
  | none => false) && goodWord w
theorem inAt_gt {i : Nat} {w : Cond} (h : inAt i w = true) : w ∈ gt := by
  unfold inAt at h
  cases hw : lw_tbl[i]? with
  | none => rw [hw] at h; simp at h
  | some w' =>
    rw [hw] at h
    simp only [Bool.and_eq_true, decide_eq_true_eq] at h
    exact List.mem_filter.mpr ⟨h.1 ▸ List.mem_of_getElem? hw, h.2⟩
theorem lkp_mem {β : Type} {L : List ((Nat × Nat) × β)} {c i : Nat} {b : β} (h : lkp L c i = some b) : ((c, i), b) ∈ L := by
  unfold lkp at h
  cases hf : L.find? (fun e => e.1.1 == c && e.1.2 == i) with
  | none => rw [hf] at h; cases h
  | some e =>
    rw [hf] at h
    have h1 := List.find?_some hf
    have h2 := List.mem_of_find?_eq_some hf
    simp only [Bool.and_eq_true, beq_iff_eq] at h1
    obtain ⟨⟨a, b'⟩, v⟩ := e
    simp only [Option.map_some, Option.some.injEq] at h
    simp only at h1
    rw [← h1.1, ← h1.2, ← h]; exact h2
/-- a field's row: the class is there, its words are in the tables, the link is -/
def chkF (e : (Nat × Nat) × (Nat × Nat)) (i : Nat) : Bool := match clsL[e.2.1]? with
  | some (_, T, N) => decide (e.2.2 < N) && inAt i (Cond.fieldLink (cnm e.1.1) e.1.2 (T e.2.2).1 (T e.2.2).2.1 (T e.2.2).2.2.1)
  | none => false
theorem flk_all : (flkL.zip flkP).all (fun e => chkF e.1 e.2) = true := by decide +kernel
def chkC (k : Nat) : Bool := match clsL[k]? with
  | some (C, T, N) => (u_ws C T N).all inT
  | none => true
theorem cls_all : (List.range 11).all chkC = true := by decide +kernel
def chkM (q : MI) (ps : List Nat) : Bool := plainName q.1.cls && decide (q.1.cls ≠ "java/lang/invoke/MethodHandle" ∧ q.1.cls ≠ "java/lang/invoke/VarHandle") && decide ((parseMethodDescriptor q.1.desc).map (fun d => d.parameters.length) = some q.2.2.2.2.2.1) && decide (q.1.cls = cnm q.2.2.2.2.1) && inAt (ps.getD 1 0) (.initialized q.1.cls) && (if q.2.2.2.2.2.2.1 then inAt (ps.getD 2 0) (.static q.1) else inAt (ps.getD 2 0) (.instanceMethod q.1) && inAt (ps.getD 3 0) (.selects q.1.cls q.1 q.1))
def chkL (e : (Nat × Nat) × Nat) (i : Nat) : Bool := if e.2 = 900 then inAt i (.methodLink (cnm e.1.1) e.1.2 Lib.Math.min.name) else if e.2 = 901 then inAt i (.methodLink (cnm e.1.1) e.1.2 Lib.Math.max.name) else if e.2 = 902 then inAt i (.methodLink (cnm e.1.1) e.1.2 arraycopyName) else decide (e.2 < 208) && inAt i (.methodLink (cnm e.1.1) e.1.2 (nmo e.2))
theorem con_all : conL.all (fun e => inT (.constant (cnm e.1.1) e.1.2 (Int32.ofInt e.2)) && decide (-2147483648 ≤ e.2 ∧ e.2 < 2147483648)) = true := by decide +kernel
theorem col_all : colL.all (fun e => inT (.constantLong (cnm e.1.1) e.1.2 (Int64.ofInt e.2)) && decide (-9223372036854775808 ≤ e.2 ∧ e.2 < 9223372036854775808)) = true := by decide +kernel
theorem shp_ok : shp.all (fun c => match c with | .inl o => decide (o.2.length ≤ 64) && (match clsL[o.1]? with | some q => decide (o.2.length = q.2.2) | none => false) | .inr a => decide (a.1 < 3 ∧ a.2 < 2147483648)) = true := by decide +kernel
theorem spc_all : (inT (.static Lib.Math.min.name) && inT (.static Lib.Math.max.name) && inT (.initialized "java/lang/Math") && inT (.native arraycopyName) && inT (.static arraycopyName) && inT (.initialized "java/lang/System") && inT (.fieldLink RJ0 9 "java/lang/String" "value" "[B") && inT (.fieldLink RJ0 15 "java/lang/String" "coder" "B") && inT (.fieldLink RJ0 38 "java/lang/String" "COMPACT_STRINGS" "Z") && inT (.fieldLink RJ0 1053 "jdk/internal/util/Preconditions" "SIOOBE_FORMATTER" "Ljava/util/function/BiFunction;")) = true := by decide +kernel
theorem met_all : ((mtab.take 208).zip metP).all (fun e => chkM e.1 e.2) = true := by decide +kernel
set_option maxRecDepth 100000 in
theorem cod_0 : ((metP.drop 0).take 26).map (fun ps => lw_tbl[ps.getD 0 0]?) = (((mtab.take 208).drop 0).take 26).map (fun q => some (Cond.code q.1 q.2.1 q.2.2.1 q.2.2.2.1)) := rfl
set_option maxRecDepth 100000 in
theorem cod_1 : ((metP.drop 26).take 26).map (fun ps => lw_tbl[ps.getD 0 0]?) = (((mtab.take 208).drop 26).take 26).map (fun q => some (Cond.code q.1 q.2.1 q.2.2.1 q.2.2.2.1)) := rfl
set_option maxRecDepth 100000 in
theorem cod_2 : ((metP.drop 52).take 26).map (fun ps => lw_tbl[ps.getD 0 0]?) = (((mtab.take 208).drop 52).take 26).map (fun q => some (Cond.code q.1 q.2.1 q.2.2.1 q.2.2.2.1)) := rfl
set_option maxRecDepth 100000 in
theorem cod_3 : ((metP.drop 78).take 26).map (fun ps => lw_tbl[ps.getD 0 0]?) = (((mtab.take 208).drop 78).take 26).map (fun q => some (Cond.code q.1 q.2.1 q.2.2.1 q.2.2.2.1)) := rfl
set_option maxRecDepth 100000 in
theorem cod_4 : ((metP.drop 104).take 26).map (fun ps => lw_tbl[ps.getD 0 0]?) = (((mtab.take 208).drop 104).take 26).map (fun q => some (Cond.code q.1 q.2.1 q.2.2.1 q.2.2.2.1)) := rfl
set_option maxRecDepth 100000 in
theorem cod_5 : ((metP.drop 130).take 26).map (fun ps => lw_tbl[ps.getD 0 0]?) = (((mtab.take 208).drop 130).take 26).map (fun q => some (Cond.code q.1 q.2.1 q.2.2.1 q.2.2.2.1)) := rfl
set_option maxRecDepth 100000 in
theorem cod_6 : ((metP.drop 156).take 26).map (fun ps => lw_tbl[ps.getD 0 0]?) = (((mtab.take 208).drop 156).take 26).map (fun q => some (Cond.code q.1 q.2.1 q.2.2.1 q.2.2.2.1)) := rfl
set_option maxRecDepth 100000 in
theorem cod_7 : ((metP.drop 182).take 26).map (fun ps => lw_tbl[ps.getD 0 0]?) = (((mtab.take 208).drop 182).take 26).map (fun q => some (Cond.code q.1 q.2.1 q.2.2.1 q.2.2.2.1)) := rfl
set_option maxRecDepth 100000 in
theorem cod_min : lw_tbl[467]? = some (Cond.code Lib.Math.min.name Lib.Math.min.code 2 (some .int)) := rfl
set_option maxRecDepth 100000 in
theorem cod_max : lw_tbl[869]? = some (Cond.code Lib.Math.max.name Lib.Math.max.code 2 (some .int)) := rfl
theorem mlk_all : (mlkL.zip mlkP).all (fun e => chkL e.1 e.2) = true := by decide +kernel
theorem lens_ok : flkP.length = flkL.length ∧ mlkP.length = mlkL.length ∧ metP.length = 208 := by decide +kernel
theorem mtab_len : mtab.length = 209 := by decide +kernel
