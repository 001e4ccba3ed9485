def am_cn (c : Nat) : String := match c with
  | 0 => RX0
  | 1 => RX1
  | 2 => RX2
  | 3 => RX3
  | 4 => RX4
  | 5 => RX5
  | 6 => RX6
  | 7 => RX7
  | 8 => RX8
  | 9 => RX9
  | 10 => RX10
  | 11 => RX11
  | 12 => RX12
  | 13 => RX13
  | 20 => RJ0
  | 21 => RJ1
  | 22 => RJ2
  | 23 => RJ3
  | 24 => RJ6
  | 25 => RJ7
  | 26 => RJ9
  | 27 => RJ10
  | 28 => RJ11
  | _ => RL
abbrev am_MM : Type := Nat × MethodName × ByteArray × Nat × Option FieldType
def mX0_init : am_MM := (0, yX0_init, cX0_init, 2, none)
def mX0_set : am_MM := (0, yX0_set, cX0_set, 3, none)
def mX0_allows : am_MM := (0, yX0_allows, cX0_allows, 6, (some .boolean))
def mX0_verdictOn : am_MM := (0, yX0_verdictOn, cX0_verdictOn, 4, (some .int))
def mX0_votesOf : am_MM := (0, yX0_votesOf, cX0_votesOf, 4, (some .int))
def mX1_init : am_MM := (1, yX1_init, cX1_init, 1, none)
def mX1_clear : am_MM := (1, yX1_clear, cX1_clear, 1, none)
def mX1_copyFrom : am_MM := (1, yX1_copyFrom, cX1_copyFrom, 2, none)
def mX1_startLaw : am_MM := (1, yX1_startLaw, cX1_startLaw, 2, none)
def mX1_addStep : am_MM := (1, yX1_addStep, cX1_addStep, 3, none)
def mX1_landHere : am_MM := (1, yX1_landHere, cX1_landHere, 2, none)
def mX1_valueOf : am_MM := (1, yX1_valueOf, cX1_valueOf, 8, (some .int))
def mX1_joined : am_MM := (1, yX1_joined, cX1_joined, 3, (some .int))
def mX2_init : am_MM := (2, yX2_init, cX2_init, 2, none)
def mX2_add : am_MM := (2, yX2_add, cX2_add, 4, (some .int))
def mX2_asks : am_MM := (2, yX2_asks, cX2_asks, 3, (some .boolean))
def mX2_walk : am_MM := (2, yX2_walk, cX2_walk, 5, none)
def mX2_goOn : am_MM := (2, yX2_goOn, cX2_goOn, 5, none)
def mX2_fits : am_MM := (2, yX2_fits, cX2_fits, 4, (some .boolean))
def mX2_countRow : am_MM := (2, yX2_countRow, cX2_countRow, 4, none)
def mX2_tellingPuppet : am_MM := (2, yX2_tellingPuppet, cX2_tellingPuppet, 6, (some .int))
def mX3_init : am_MM := (3, yX3_init, cX3_init, 1, none)
def mX3_begin : am_MM := (3, yX3_begin, cX3_begin, 2, none)
def mX3_openCase : am_MM := (3, yX3_openCase, cX3_openCase, 2, none)
def mX3_copyFrom : am_MM := (3, yX3_copyFrom, cX3_copyFrom, 2, none)
def mX3_moveBy : am_MM := (3, yX3_moveBy, cX3_moveBy, 3, none)
def mX3_turnOver : am_MM := (3, yX3_turnOver, cX3_turnOver, 1, none)
def mX3_close : am_MM := (3, yX3_close, cX3_close, 4, none)
def mX3_dropOldest : am_MM := (3, yX3_dropOldest, cX3_dropOldest, 1, none)
def mX3_hasPrecedent : am_MM := (3, yX3_hasPrecedent, cX3_hasPrecedent, 2, (some .boolean))
def mX3_distance : am_MM := (3, yX3_distance, cX3_distance, 4, (some .int))
def mX3_nearestTo : am_MM := (3, yX3_nearestTo, cX3_nearestTo, 5, (some .int))
def mX3_clashing : am_MM := (3, yX3_clashing, cX3_clashing, 4, (some .int))
def mX4_init : am_MM := (4, yX4_init, cX4_init, 3, none)
def mX4_forces : am_MM := (4, yX4_forces, cX4_forces, 4, (some .boolean))
def mX4_strongString : am_MM := (4, yX4_strongString, cX4_strongString, 4, (some .int))
def mX4_start : am_MM := (4, yX4_start, cX4_start, 4, none)
def mX4_tryAll : am_MM := (4, yX4_tryAll, cX4_tryAll, 7, (some .boolean))
def mX4_isWon : am_MM := (4, yX4_isWon, cX4_isWon, 6, (some .boolean))
def mX4_recalled : am_MM := (4, yX4_recalled, cX4_recalled, 5, (some .int))
def mX4_note : am_MM := (4, yX4_note, cX4_note, 4, none)
def mX5_init : am_MM := (5, yX5_init, cX5_init, 3, none)
def mX5_poll : am_MM := (5, yX5_poll, cX5_poll, 5, none)
def mX5_waysOf : am_MM := (5, yX5_waysOf, cX5_waysOf, 2, (some .int))
def mX5_waysOfMost : am_MM := (5, yX5_waysOfMost, cX5_waysOfMost, 3, (some .int))
def mX5_likeliest : am_MM := (5, yX5_likeliest, cX5_likeliest, 3, (some .int))
def mX5_share : am_MM := (5, yX5_share, cX5_share, 4, (some .int))
def mX5_greatestDivisor : am_MM := (5, yX5_greatestDivisor, cX5_greatestDivisor, 6, (some .int))
def mX6_init : am_MM := (6, yX6_init, cX6_init, 1, none)
def mX6_clear : am_MM := (6, yX6_clear, cX6_clear, 1, none)
def mX6_remember : am_MM := (6, yX6_remember, cX6_remember, 2, none)
def mX6_takeBack : am_MM := (6, yX6_takeBack, cX6_takeBack, 3, (some .boolean))
def mX6_putInSlot : am_MM := (6, yX6_putInSlot, cX6_putInSlot, 3, (some .boolean))
def mX6_takeFromSlot : am_MM := (6, yX6_takeFromSlot, cX6_takeFromSlot, 3, (some .boolean))
def mX6_slotsHeld : am_MM := (6, yX6_slotsHeld, cX6_slotsHeld, 1, (some .int))
def mX7_init : am_MM := (7, yX7_init, cX7_init, 3, none)
def mX7_aimAt : am_MM := (7, yX7_aimAt, cX7_aimAt, 4, none)
def mX7_isGoal : am_MM := (7, yX7_isGoal, cX7_isGoal, 3, (some .boolean))
def mX7_fewest : am_MM := (7, yX7_fewest, cX7_fewest, 3, (some .int))
def mX7_oneMore : am_MM := (7, yX7_oneMore, cX7_oneMore, 6, (some .boolean))
def mX7_reaches : am_MM := (7, yX7_reaches, cX7_reaches, 5, (some .boolean))
def mX7_isNext : am_MM := (7, yX7_isNext, cX7_isNext, 3, (some .boolean))
def mX7_swap : am_MM := (7, yX7_swap, cX7_swap, 3, none)
def mX8_xOf : am_MM := (8, yX8_xOf, cX8_xOf, 2, (some .int))
def mX8_headOf : am_MM := (8, yX8_headOf, cX8_headOf, 2, (some .int))
def mX8_handOf : am_MM := (8, yX8_handOf, cX8_handOf, 2, (some .int))
def mX8_apart : am_MM := (8, yX8_apart, cX8_apart, 1, (some .int))
def mX8_nods : am_MM := (8, yX8_nods, cX8_nods, 1, (some .int))
def mX8_judgesHand : am_MM := (8, yX8_judgesHand, cX8_judgesHand, 1, (some .int))
def mX8_shifted : am_MM := (8, yX8_shifted, cX8_shifted, 3, (some .int))
def mX8_turned : am_MM := (8, yX8_turned, cX8_turned, 3, (some .int))
def mX9_init : am_MM := (9, yX9_init, cX9_init, 1, none)
def mX9_faultOf : am_MM := (9, yX9_faultOf, cX9_faultOf, 5, (some .int))
def mX9_fail : am_MM := (9, yX9_fail, cX9_fail, 2, (some .boolean))
def mX9_note : am_MM := (9, yX9_note, cX9_note, 2, none)
def mX9_step : am_MM := (9, yX9_step, cX9_step, 1, (some .boolean))
def mX9_take : am_MM := (9, yX9_take, cX9_take, 2, (some .boolean))
def mX9_takeInt : am_MM := (9, yX9_takeInt, cX9_takeInt, 2, (some .boolean))
def mX9_takeNewName : am_MM := (9, yX9_takeNewName, cX9_takeNewName, 2, (some .boolean))
def mX9_takePuppetName : am_MM := (9, yX9_takePuppetName, cX9_takePuppetName, 2, (some .boolean))
def mX9_indexOfName : am_MM := (9, yX9_indexOfName, cX9_indexOfName, 2, (some .int))
def mX9_puppetTold : am_MM := (9, yX9_puppetTold, cX9_puppetTold, 2, (some .boolean))
def mX9_stringTold : am_MM := (9, yX9_stringTold, cX9_stringTold, 3, (some .boolean))
def mX9_childTold : am_MM := (9, yX9_childTold, cX9_childTold, 2, (some .boolean))
def mX9_stormTold : am_MM := (9, yX9_stormTold, cX9_stormTold, 1, (some .boolean))
def mX9_seedTold : am_MM := (9, yX9_seedTold, cX9_seedTold, 1, (some .boolean))
def mX9_lawTold : am_MM := (9, yX9_lawTold, cX9_lawTold, 5, (some .boolean))
def mX9_sum : am_MM := (9, yX9_sum, cX9_sum, 5, (some .boolean))
def mX9_product : am_MM := (9, yX9_product, cX9_product, 5, (some .boolean))
def mX9_unit : am_MM := (9, yX9_unit, cX9_unit, 2, (some .boolean))
def mX10_init : am_MM := (10, yX10_init, cX10_init, 1, none)
def mX10_clear : am_MM := (10, yX10_clear, cX10_clear, 1, none)
def mX10_copyFrom : am_MM := (10, yX10_copyFrom, cX10_copyFrom, 2, none)
def mX10_hasPuppet : am_MM := (10, yX10_hasPuppet, cX10_hasPuppet, 2, (some .boolean))
def mX10_hasString : am_MM := (10, yX10_hasString, cX10_hasString, 2, (some .boolean))
def mX10_hasChild : am_MM := (10, yX10_hasChild, cX10_hasChild, 2, (some .boolean))
def mX10_stringsOf : am_MM := (10, yX10_stringsOf, cX10_stringsOf, 4, (some .int))
def mX10_moved : am_MM := (10, yX10_moved, cX10_moved, 5, (some .int))
def mX10_tanglesIn : am_MM := (10, yX10_tanglesIn, cX10_tanglesIn, 6, (some .int))
def mX10_stormsAt : am_MM := (10, yX10_stormsAt, cX10_stormsAt, 3, (some .boolean))
def mX10_drawnAt : am_MM := (10, yX10_drawnAt, cX10_drawnAt, 3, (some .int))
def mX10_lot : am_MM := (10, yX10_lot, cX10_lot, 4, (some .int))
def mX10_stirred : am_MM := (10, yX10_stirred, cX10_stirred, 3, (some .int))
def mX10_bestPainted : am_MM := (10, yX10_bestPainted, cX10_bestPainted, 7, (some .int))
def mX10_paintGap : am_MM := (10, yX10_paintGap, cX10_paintGap, 3, (some .int))
def mX11_init : am_MM := (11, yX11_init, cX11_init, 6, none)
def mX11_cut : am_MM := (11, yX11_cut, cX11_cut, 4, none)
def mX11_showNext : am_MM := (11, yX11_showNext, cX11_showNext, 2, none)
def mX11_cutOne : am_MM := (11, yX11_cutOne, cX11_cutOne, 2, none)
def mX11_isBlank : am_MM := (11, yX11_isBlank, cX11_isBlank, 1, (some .boolean))
def mX11_cutLetters : am_MM := (11, yX11_cutLetters, cX11_cutLetters, 2, none)
def mX11_cutDigits : am_MM := (11, yX11_cutDigits, cX11_cutDigits, 1, none)
def mX12_init : am_MM := (12, yX12_init, cX12_init, 1, none)
def mX12_feed : am_MM := (12, yX12_feed, cX12_feed, 6, (some .int))
def mX12_putWord : am_MM := (12, yX12_putWord, cX12_putWord, 3, none)
def mX12_back : am_MM := (12, yX12_back, cX12_back, 2, (some .int))
def mX12_read : am_MM := (12, yX12_read, cX12_read, 2, (some .int))
def mX12_place : am_MM := (12, yX12_place, cX12_place, 1, (some .int))
def mX12_puppet : am_MM := (12, yX12_puppet, cX12_puppet, 3, (some .int))
def mX12_string : am_MM := (12, yX12_string, cX12_string, 3, (some .int))
def mX12_court : am_MM := (12, yX12_court, cX12_court, 2, (some .int))
def mX12_may : am_MM := (12, yX12_may, cX12_may, 2, (some .int))
def mX12_mayBy : am_MM := (12, yX12_mayBy, cX12_mayBy, 3, (some .boolean))
def mX12_pull : am_MM := (12, yX12_pull, cX12_pull, 3, (some .int))
def mX12_endTurn : am_MM := (12, yX12_endTurn, cX12_endTurn, 2, none)
def mX12_pass : am_MM := (12, yX12_pass, cX12_pass, 1, (some .int))
def mX12_open : am_MM := (12, yX12_open, cX12_open, 1, (some .int))
def mX12_undo : am_MM := (12, yX12_undo, cX12_undo, 1, (some .boolean))
def mX12_after : am_MM := (12, yX12_after, cX12_after, 4, (some .int))
def mX12_shortest : am_MM := (12, yX12_shortest, cX12_shortest, 4, (some .int))
def mX12_force : am_MM := (12, yX12_force, cX12_force, 3, (some .int))
def mX12_straight : am_MM := (12, yX12_straight, cX12_straight, 1, (some .int))
def mX12_reach : am_MM := (12, yX12_reach, cX12_reach, 3, (some .int))
def mX12_strong : am_MM := (12, yX12_strong, cX12_strong, 2, (some .int))
def mX12_free : am_MM := (12, yX12_free, cX12_free, 4, (some .int))
def mX12_worn : am_MM := (12, yX12_worn, cX12_worn, 4, (some .int))
def mX12_verdicts : am_MM := (12, yX12_verdicts, cX12_verdicts, 1, (some .int))
def mX12_half : am_MM := (12, yX12_half, cX12_half, 2, (some .int))
def mX12_jury : am_MM := (12, yX12_jury, cX12_jury, 3, (some .int))
def mX12_precedent : am_MM := (12, yX12_precedent, cX12_precedent, 3, (some .int))
def mX12_nearest : am_MM := (12, yX12_nearest, cX12_nearest, 5, (some .int))
def mX12_clashes : am_MM := (12, yX12_clashes, cX12_clashes, 1, (some .int))
def mX12_paint : am_MM := (12, yX12_paint, cX12_paint, 2, (some .int))
def mX12_storms : am_MM := (12, yX12_storms, cX12_storms, 6, (some .int))
def mX12_verdictBySeed : am_MM := (12, yX12_verdictBySeed, cX12_verdictBySeed, 5, (some .int))
def mX12_tell : am_MM := (12, yX12_tell, cX12_tell, 4, (some .int))
def mX12_forget : am_MM := (12, yX12_forget, cX12_forget, 2, (some .int))
def mX12_cloth : am_MM := (12, yX12_cloth, cX12_cloth, 3, (some .int))
def mX12_sure : am_MM := (12, yX12_sure, cX12_sure, 4, (some .int))
def mX12_look : am_MM := (12, yX12_look, cX12_look, 3, (some .int))
def mX12_hold : am_MM := (12, yX12_hold, cX12_hold, 2, (some .boolean))
def mX12_restore : am_MM := (12, yX12_restore, cX12_restore, 2, (some .boolean))
def mX12_count : am_MM := (12, yX12_count, cX12_count, 2, (some .int))
def mX12_mayBits : am_MM := (12, yX12_mayBits, cX12_mayBits, 3, (some .int))
def mX13_init : am_MM := (13, yX13_init, cX13_init, 1, none)
def mX13_feed : am_MM := (13, yX13_feed, cX13_feed, 6, (some .int))
def mX13_put : am_MM := (13, yX13_put, cX13_put, 3, none)
def mX13_back : am_MM := (13, yX13_back, cX13_back, 2, (some .int))
def mX13_byteAt : am_MM := (13, yX13_byteAt, cX13_byteAt, 2, (some .int))
def mX13_isDigit : am_MM := (13, yX13_isDigit, cX13_isDigit, 1, (some .boolean))
def mX13_isLetter : am_MM := (13, yX13_isLetter, cX13_isLetter, 1, (some .boolean))
def mX13_appends : am_MM := (13, yX13_appends, cX13_appends, 3, (some .long))
def mX13_word : am_MM := (13, yX13_word, cX13_word, 7, (some .long))
def mX13_token : am_MM := (13, yX13_token, cX13_token, 6, none)
def mX13_cut : am_MM := (13, yX13_cut, cX13_cut, 8, none)
def mX13_sign : am_MM := (13, yX13_sign, cX13_sign, 5, (some .int))
def mX13_is : am_MM := (13, yX13_is, cX13_is, 2, (some .boolean))
def mX13_fail : am_MM := (13, yX13_fail, cX13_fail, 2, none)
def mX13_wrong : am_MM := (13, yX13_wrong, cX13_wrong, 4, none)
def mX13_goesOn : am_MM := (13, yX13_goesOn, cX13_goesOn, 1, none)
def mX13_must : am_MM := (13, yX13_must, cX13_must, 2, none)
def mX13_plain : am_MM := (13, yX13_plain, cX13_plain, 3, none)
def mX13_read : am_MM := (13, yX13_read, cX13_read, 2, (some .int))
def mX13_place : am_MM := (13, yX13_place, cX13_place, 1, (some .int))
def mX13_roomFor : am_MM := (13, yX13_roomFor, cX13_roomFor, 3, none)
def mX13_tellOne : am_MM := (13, yX13_tellOne, cX13_tellOne, 2, none)
def mX13_named : am_MM := (13, yX13_named, cX13_named, 3, (some .int))
def mX13_ends : am_MM := (13, yX13_ends, cX13_ends, 3, none)
def mX13_knownPuppet : am_MM := (13, yX13_knownPuppet, cX13_knownPuppet, 3, (some .int))
def mX13_bounded : am_MM := (13, yX13_bounded, cX13_bounded, 4, (some .int))
def mX13_tellPuppet : am_MM := (13, yX13_tellPuppet, cX13_tellPuppet, 3, none)
def mX13_tellString : am_MM := (13, yX13_tellString, cX13_tellString, 5, none)
def mX13_tellLaw : am_MM := (13, yX13_tellLaw, cX13_tellLaw, 4, none)
def mX13_term : am_MM := (13, yX13_term, cX13_term, 1, none)
def mX13_emit : am_MM := (13, yX13_emit, cX13_emit, 3, none)
def mX13_comesOut : am_MM := (13, yX13_comesOut, cX13_comesOut, 3, none)
def mX13_expression : am_MM := (13, yX13_expression, cX13_expression, 3, none)
def mX13_unit : am_MM := (13, yX13_unit, cX13_unit, 1, none)
def mX13_termOf : am_MM := (13, yX13_termOf, cX13_termOf, 8, (some .int))
def mX13_in : am_MM := (13, yX13_in, cX13_in, 3, (some .boolean))
def mX13_isPuppet : am_MM := (13, yX13_isPuppet, cX13_isPuppet, 2, (some .boolean))
def mX13_isString : am_MM := (13, yX13_isString, cX13_isString, 2, (some .boolean))
def mX13_opens : am_MM := (13, yX13_opens, cX13_opens, 2, none)
def mX13_begins : am_MM := (13, yX13_begins, cX13_begins, 2, none)
def mX13_keepsRow : am_MM := (13, yX13_keepsRow, cX13_keepsRow, 2, none)
def mX13_copies : am_MM := (13, yX13_copies, cX13_copies, 2, none)
def mX13_mixed : am_MM := (13, yX13_mixed, cX13_mixed, 3, (some .int))
def mX13_lotOf : am_MM := (13, yX13_lotOf, cX13_lotOf, 3, (some .int))
def mX13_apartNow : am_MM := (13, yX13_apartNow, cX13_apartNow, 1, (some .int))
def mX13_tanglesNow : am_MM := (13, yX13_tanglesNow, cX13_tanglesNow, 4, (some .int))
def mX13_nodsNow : am_MM := (13, yX13_nodsNow, cX13_nodsNow, 3, (some .int))
def mX13_looks : am_MM := (13, yX13_looks, cX13_looks, 1, none)
def mX13_asks : am_MM := (13, yX13_asks, cX13_asks, 7, (some .int))
def mX13_goesTo : am_MM := (13, yX13_goesTo, cX13_goesTo, 2, (some .int))
def mX13_staysWithin : am_MM := (13, yX13_staysWithin, cX13_staysWithin, 2, (some .boolean))
def mX13_mayPull : am_MM := (13, yX13_mayPull, cX13_mayPull, 4, (some .boolean))
def mX13_mayNow : am_MM := (13, yX13_mayNow, cX13_mayNow, 2, (some .boolean))
def mX13_verdictNow : am_MM := (13, yX13_verdictNow, cX13_verdictNow, 2, (some .int))
def mX13_moves : am_MM := (13, yX13_moves, cX13_moves, 4, none)
def mX13_turnEnds : am_MM := (13, yX13_turnEnds, cX13_turnEnds, 1, none)
def mX13_plays : am_MM := (13, yX13_plays, cX13_plays, 2, none)
def mX13_keepsCase : am_MM := (13, yX13_keepsCase, cX13_keepsCase, 2, none)
def mX13_pulls : am_MM := (13, yX13_pulls, cX13_pulls, 3, none)
def mX13_puppet : am_MM := (13, yX13_puppet, cX13_puppet, 5, (some .int))
def mX13_string : am_MM := (13, yX13_string, cX13_string, 4, (some .int))
def mX13_court : am_MM := (13, yX13_court, cX13_court, 2, (some .int))
def mX13_may : am_MM := (13, yX13_may, cX13_may, 2, (some .int))
def mX13_keeps : am_MM := (13, yX13_keeps, cX13_keeps, 2, none)
def mX13_pull : am_MM := (13, yX13_pull, cX13_pull, 2, (some .int))
def mX13_pass : am_MM := (13, yX13_pass, cX13_pass, 1, (some .int))
def mX13_open : am_MM := (13, yX13_open, cX13_open, 1, (some .int))
def mX13_undo : am_MM := (13, yX13_undo, cX13_undo, 2, (some .boolean))
def mX13_after : am_MM := (13, yX13_after, cX13_after, 3, (some .int))
def mX13_sevens : am_MM := (13, yX13_sevens, cX13_sevens, 3, (some .int))
def mX13_isPlayed : am_MM := (13, yX13_isPlayed, cX13_isPlayed, 5, (some .boolean))
def mX13_shortest : am_MM := (13, yX13_shortest, cX13_shortest, 5, (some .int))
def mX13_piles : am_MM := (13, yX13_piles, cX13_piles, 3, none)
def mX13_forces : am_MM := (13, yX13_forces, cX13_forces, 9, (some .boolean))
def mX13_force : am_MM := (13, yX13_force, cX13_force, 3, (some .int))
def mX13_strong : am_MM := (13, yX13_strong, cX13_strong, 4, (some .int))
def mX13_leadsTo : am_MM := (13, yX13_leadsTo, cX13_leadsTo, 5, (some .boolean))
def mX13_fewest : am_MM := (13, yX13_fewest, cX13_fewest, 5, (some .int))
def mX13_straight : am_MM := (13, yX13_straight, cX13_straight, 1, (some .int))
def mX13_reach : am_MM := (13, yX13_reach, cX13_reach, 3, (some .int))
def mX13_free : am_MM := (13, yX13_free, cX13_free, 4, (some .int))
def mX13_worn : am_MM := (13, yX13_worn, cX13_worn, 3, (some .int))
def mX13_fillsVotes : am_MM := (13, yX13_fillsVotes, cX13_fillsVotes, 4, none)
def mX13_common : am_MM := (13, yX13_common, cX13_common, 5, (some .int))
def mX13_lineOf : am_MM := (13, yX13_lineOf, cX13_lineOf, 5, (some .int))
def mX13_jury : am_MM := (13, yX13_jury, cX13_jury, 3, (some .int))
def mX13_verdicts : am_MM := (13, yX13_verdicts, cX13_verdicts, 3, (some .int))
def mX13_half : am_MM := (13, yX13_half, cX13_half, 4, (some .int))
def mX13_precedent : am_MM := (13, yX13_precedent, cX13_precedent, 3, (some .int))
def mX13_off : am_MM := (13, yX13_off, cX13_off, 2, (some .int))
def mX13_nearest : am_MM := (13, yX13_nearest, cX13_nearest, 6, (some .int))
def mX13_clashes : am_MM := (13, yX13_clashes, cX13_clashes, 4, (some .int))
def mX13_offPaint : am_MM := (13, yX13_offPaint, cX13_offPaint, 3, (some .int))
def mX13_paint : am_MM := (13, yX13_paint, cX13_paint, 10, (some .int))
def mX13_storms : am_MM := (13, yX13_storms, cX13_storms, 6, (some .int))
def mX13_tell : am_MM := (13, yX13_tell, cX13_tell, 4, (some .int))
def mX13_forget : am_MM := (13, yX13_forget, cX13_forget, 2, (some .int))
def mX13_isSeen : am_MM := (13, yX13_isSeen, cX13_isSeen, 4, (some .boolean))
def mX13_isCloth : am_MM := (13, yX13_isCloth, cX13_isCloth, 6, (some .boolean))
def mX13_isAsked : am_MM := (13, yX13_isAsked, cX13_isAsked, 3, (some .boolean))
def mX13_cloth : am_MM := (13, yX13_cloth, cX13_cloth, 5, (some .int))
def mX13_sure : am_MM := (13, yX13_sure, cX13_sure, 7, (some .int))
def mX13_look : am_MM := (13, yX13_look, cX13_look, 8, (some .int))
def mX13_hold : am_MM := (13, yX13_hold, cX13_hold, 3, (some .boolean))
def mX13_restore : am_MM := (13, yX13_restore, cX13_restore, 3, (some .boolean))
def mX13_count : am_MM := (13, yX13_count, cX13_count, 4, (some .int))
def mJ11_isValidCodePoint_9a6ad : am_MM := (28, yJ11_isValidCodePoint_9a6ad, cJ11_isValidCodePoint_9a6ad, 2, (some .boolean))
def mJ11_highSurrogate_5068e : am_MM := (28, yJ11_highSurrogate_5068e, cJ11_highSurrogate_5068e, 1, (some .char))
def mJ11_lowSurrogate_5068e : am_MM := (28, yJ11_lowSurrogate_5068e, cJ11_lowSurrogate_5068e, 1, (some .char))
def mJ6_bitCount_0f7a4 : am_MM := (24, yJ6_bitCount_0f7a4, cJ6_bitCount_0f7a4, 1, (some .int))
def mJ9_abs_0f7a4 : am_MM := (26, yJ9_abs_0f7a4, cJ9_abs_0f7a4, 1, (some .int))
def mJ9_max_7cf53 : am_MM := (26, yJ9_max_7cf53, cJ9_max_7cf53, 2, (some .int))
def mJ9_min_7cf53 : am_MM := (26, yJ9_min_7cf53, cJ9_min_7cf53, 2, (some .int))
def mJ0_length_8abf5 : am_MM := (20, yJ0_length_8abf5, cJ0_length_8abf5, 1, (some .int))
def mJ0_charAt_5068e : am_MM := (20, yJ0_charAt_5068e, cJ0_charAt_5068e, 2, (some .char))
def mJ0_indexOf_0f7a4 : am_MM := (20, yJ0_indexOf_0f7a4, cJ0_indexOf_0f7a4, 2, (some .int))
def mJ0_indexOf_7cf53 : am_MM := (20, yJ0_indexOf_7cf53, cJ0_indexOf_7cf53, 3, (some .int))
def mJ0_coder_7d493 : am_MM := (20, yJ0_coder_7d493, cJ0_coder_7d493, 1, (some .byte))
def mJ0_isLatin1_aae02 : am_MM := (20, yJ0_isLatin1_aae02, cJ0_isLatin1_aae02, 1, (some .boolean))
def mJ0_checkIndex_df160 : am_MM := (20, yJ0_checkIndex_df160, cJ0_checkIndex_df160, 2, none)
def mJ0_checkBoundsBeginEnd_23922 : am_MM := (20, yJ0_checkBoundsBeginEnd_23922, cJ0_checkBoundsBeginEnd_23922, 3, none)
def mJ1_charAt_3b067 : am_MM := (21, yJ1_charAt_3b067, cJ1_charAt_3b067, 2, (some .char))
def mJ1_canEncode_9a6ad : am_MM := (21, yJ1_canEncode_9a6ad, cJ1_canEncode_9a6ad, 1, (some .boolean))
def mJ1_indexOf_4cfef : am_MM := (21, yJ1_indexOf_4cfef, cJ1_indexOf_4cfef, 4, (some .int))
def mJ1_indexOfChar_4cfef : am_MM := (21, yJ1_indexOfChar_4cfef, cJ1_indexOfChar_4cfef, 6, (some .int))
def mJ2_getChar_3b067 : am_MM := (22, yJ2_getChar_3b067, cJ2_getChar_3b067, 2, (some .char))
def mJ2_length_9d52b : am_MM := (22, yJ2_length_9d52b, cJ2_length_9d52b, 1, (some .int))
def mJ2_indexOf_4cfef : am_MM := (22, yJ2_indexOf_4cfef, cJ2_indexOf_4cfef, 4, (some .int))
def mJ2_indexOfChar_4cfef : am_MM := (22, yJ2_indexOfChar_4cfef, cJ2_indexOfChar_4cfef, 4, (some .int))
def mJ2_indexOfCharUnsafe_4cfef : am_MM := (22, yJ2_indexOfCharUnsafe_4cfef, cJ2_indexOfCharUnsafe_4cfef, 5, (some .int))
def mJ2_indexOfSupplementary_4cfef : am_MM := (22, yJ2_indexOfSupplementary_4cfef, cJ2_indexOfSupplementary_4cfef, 7, (some .int))
def mJ2_charAt_3b067 : am_MM := (22, yJ2_charAt_3b067, cJ2_charAt_3b067, 2, (some .char))
def mJ2_checkIndex_2214a : am_MM := (22, yJ2_checkIndex_2214a, cJ2_checkIndex_2214a, 2, none)
def mJ2_checkBoundsBeginEnd_d044e : am_MM := (22, yJ2_checkBoundsBeginEnd_d044e, cJ2_checkBoundsBeginEnd_d044e, 3, none)
def mJ7_fill_53178 : am_MM := (25, yJ7_fill_53178, cJ7_fill_53178, 4, none)
def mJ3_checkIndex_8e157 : am_MM := (23, yJ3_checkIndex_8e157, cJ3_checkIndex_8e157, 3, (some .int))
def mJ3_checkFromToIndex_8c36e : am_MM := (23, yJ3_checkFromToIndex_8c36e, cJ3_checkFromToIndex_8c36e, 4, (some .int))
def mL_law : am_MM := (30, yL_law, cL_law, 4, (some .boolean))
/-- links: class, pool index, kind (0 virtual, 1 static, 2 special, 3 special of a nest mate, 4 Object.<init>, 5 arraycopy), how many arguments, the method -/
def am_LK : List (Nat × Nat × Nat × Nat × am_MM) := [
  (30, 9, 2, 0, mX12_init),
  (12, 1, 4, 0, mX8_xOf),
  (12, 22, 2, 0, mX10_init),
  (10, 3, 4, 0, mX8_xOf),
  (1, 5, 4, 0, mX8_xOf),
  (10, 59, 0, 0, mX10_clear),
  (10, 62, 0, 0, mX1_clear),
  (1, 27, 0, 1, mX1_startLaw),
  (1, 31, 0, 2, mX1_addStep),
  (9, 3, 4, 0, mX8_xOf),
  (9, 11, 2, 0, mX11_init),
  (11, 3, 4, 0, mX8_xOf),
  (11, 51, 0, 0, mJ0_length_8abf5),
  (20, 335, 0, 0, mJ0_coder_7d493),
  (11, 56, 0, 1, mJ0_charAt_5068e),
  (20, 492, 0, 0, mJ0_isLatin1_aae02),
  (20, 495, 1, 2, mJ1_charAt_3b067),
  (21, 9, 1, 2, mJ0_checkIndex_df160),
  (20, 1059, 1, 3, mJ3_checkIndex_8e157),
  (20, 498, 1, 2, mJ2_charAt_3b067),
  (22, 67, 1, 2, mJ2_checkIndex_2214a),
  (22, 48, 1, 1, mJ2_length_9d52b),
  (22, 414, 1, 2, mJ0_checkIndex_df160),
  (22, 71, 1, 2, mJ2_getChar_3b067),
  (9, 41, 2, 0, mX10_init),
  (12, 36, 2, 1, mX0_init),
  (0, 3, 4, 0, mX8_xOf),
  (3, 3, 4, 0, mX8_xOf),
  (6, 3, 4, 0, mX8_xOf),
  (12, 59, 2, 2, mX7_init),
  (7, 3, 4, 0, mX8_xOf),
  (12, 68, 2, 2, mX4_init),
  (4, 3, 4, 0, mX8_xOf),
  (12, 75, 2, 2, mX5_init),
  (5, 3, 4, 0, mX8_xOf),
  (12, 82, 2, 1, mX2_init),
  (2, 3, 4, 0, mX8_xOf),
  (30, 13, 0, 5, mX12_feed),
  (12, 87, 0, 1, mX12_putWord),
  (30, 18, 0, 1, mX12_back),
  (30, 23, 0, 0, mX12_read),
  (12, 91, 0, 2, mX9_faultOf),
  (9, 49, 0, 0, mX10_clear),
  (9, 52, 0, 2, mX11_cut),
  (11, 60, 7, 0, mX8_xOf),
  (11, 66, 0, 0, mX11_cutOne),
  (11, 72, 1, 1, mX11_isBlank),
  (11, 76, 0, 0, mX11_cutLetters),
  (11, 79, 0, 0, mX11_cutDigits),
  (11, 84, 0, 1, mJ0_indexOf_0f7a4),
  (20, 633, 0, 2, mJ0_indexOf_7cf53),
  (20, 505, 0, 0, mJ0_length_8abf5),
  (20, 637, 1, 4, mJ1_indexOf_4cfef),
  (21, 88, 1, 1, mJ1_canEncode_9a6ad),
  (21, 92, 6, 0, mX8_xOf),
  (21, 38, 7, 0, mX8_xOf),
  (21, 95, 1, 4, mJ1_indexOfChar_4cfef),
  (20, 640, 1, 4, mJ2_indexOf_4cfef),
  (22, 224, 6, 0, mX8_xOf),
  (22, 183, 7, 0, mX8_xOf),
  (22, 228, 1, 4, mJ2_indexOfChar_4cfef),
  (22, 96, 1, 3, mJ2_checkBoundsBeginEnd_d044e),
  (22, 241, 1, 3, mJ0_checkBoundsBeginEnd_23922),
  (20, 1062, 1, 4, mJ3_checkFromToIndex_8c36e),
  (22, 244, 1, 4, mJ2_indexOfCharUnsafe_4cfef),
  (22, 232, 1, 4, mJ2_indexOfSupplementary_4cfef),
  (22, 164, 1, 1, mJ11_isValidCodePoint_9a6ad),
  (22, 157, 1, 1, mJ11_highSurrogate_5068e),
  (22, 161, 1, 1, mJ11_lowSurrogate_5068e),
  (11, 69, 0, 0, mX11_showNext),
  (9, 59, 0, 0, mX9_puppetTold),
  (9, 79, 0, 1, mX9_fail),
  (9, 88, 0, 0, mX9_step),
  (9, 85, 0, 0, mX11_showNext),
  (9, 106, 0, 1, mX9_takeNewName),
  (9, 99, 0, 0, mX9_indexOfName),
  (9, 95, 0, 1, mX9_note),
  (9, 109, 0, 1, mX9_takeInt),
  (9, 115, 1, 3, mX8_shifted),
  (9, 124, 0, 1, mX9_take),
  (9, 63, 0, 0, mX9_stringTold),
  (9, 130, 0, 0, mX9_takePuppetName),
  (9, 66, 0, 0, mX9_childTold),
  (9, 69, 0, 1, mX9_lawTold),
  (9, 161, 0, 1, mX1_startLaw),
  (9, 166, 0, 1, mX9_sum),
  (9, 179, 0, 1, mX9_product),
  (9, 182, 0, 1, mX9_unit),
  (9, 172, 0, 2, mX1_addStep),
  (9, 176, 0, 1, mX1_landHere),
  (9, 73, 0, 0, mX9_stormTold),
  (9, 76, 0, 0, mX9_seedTold),
  (12, 99, 0, 1, mX10_copyFrom),
  (10, 63, 5, 0, mX8_xOf),
  (10, 69, 0, 1, mX1_copyFrom),
  (1, 35, 5, 0, mX8_xOf),
  (12, 105, 0, 1, mX3_begin),
  (3, 55, 1, 2, mJ7_fill_53178),
  (3, 61, 0, 1, mX3_openCase),
  (12, 108, 0, 0, mX6_clear),
  (30, 28, 0, 0, mX12_place),
  (30, 32, 0, 2, mX12_puppet),
  (12, 114, 0, 1, mX10_hasPuppet),
  (12, 121, 1, 2, mX8_xOf),
  (12, 127, 1, 2, mX8_headOf),
  (12, 130, 1, 2, mX8_handOf),
  (12, 137, 0, 1, mX10_stringsOf),
  (30, 37, 0, 2, mX12_string),
  (12, 141, 0, 1, mX10_hasString),
  (30, 41, 0, 1, mX12_court),
  (12, 165, 1, 1, mX8_apart),
  (8, 11, 1, 2, mX8_xOf),
  (12, 168, 0, 1, mX10_tanglesIn),
  (10, 77, 1, 2, mX8_xOf),
  (12, 171, 1, 1, mX8_nods),
  (8, 15, 1, 1, mJ6_bitCount_0f7a4),
  (30, 45, 0, 1, mX12_may),
  (12, 177, 0, 2, mX12_mayBy),
  (12, 181, 0, 4, mX0_allows),
  (0, 36, 0, 1, mX10_hasString),
  (0, 43, 0, 2, mX10_moved),
  (10, 73, 0, 1, mX10_hasString),
  (10, 83, 1, 3, mX8_shifted),
  (10, 87, 1, 3, mX8_turned),
  (0, 47, 0, 2, mX0_set),
  (0, 19, 1, 1, mX8_apart),
  (0, 25, 0, 1, mX10_tanglesIn),
  (0, 30, 1, 1, mX8_nods),
  (0, 33, 1, 1, mX8_judgesHand),
  (8, 21, 1, 2, mX8_handOf),
  (0, 54, 1, 2, mX8_xOf),
  (0, 61, 0, 2, mX1_valueOf),
  (1, 41, 1, 3, mX1_joined),
  (30, 49, 0, 1, mX12_pull),
  (12, 185, 0, 1, mX6_remember),
  (6, 31, 0, 1, mX3_copyFrom),
  (3, 65, 5, 0, mX8_xOf),
  (6, 35, 7, 0, mX8_xOf),
  (12, 195, 0, 2, mX10_stormsAt),
  (10, 90, 1, 3, mX10_lot),
  (10, 93, 1, 2, mX10_stirred),
  (12, 201, 0, 2, mX10_drawnAt),
  (12, 204, 0, 2, mX10_moved),
  (12, 207, 0, 2, mX3_moveBy),
  (12, 211, 0, 0, mX12_endTurn),
  (12, 214, 0, 0, mX3_turnOver),
  (12, 217, 0, 2, mX0_verdictOn),
  (12, 220, 0, 3, mX3_close),
  (3, 71, 0, 0, mX3_dropOldest),
  (30, 53, 0, 0, mX12_pass),
  (30, 57, 0, 0, mX12_open),
  (12, 224, 0, 1, mX3_openCase),
  (30, 61, 0, 0, mX12_undo),
  (12, 230, 0, 1, mX6_takeBack),
  (30, 66, 0, 2, mX12_after),
  (30, 70, 0, 2, mX12_shortest),
  (12, 234, 0, 3, mX7_aimAt),
  (12, 237, 0, 1, mX7_fewest),
  (7, 71, 0, 2, mX7_isGoal),
  (7, 51, 1, 2, mX8_xOf),
  (7, 57, 0, 1, mX10_tanglesIn),
  (7, 81, 0, 2, mX7_oneMore),
  (7, 87, 0, 4, mX0_allows),
  (7, 93, 0, 2, mX10_moved),
  (7, 96, 0, 3, mX7_reaches),
  (7, 103, 0, 1, mX7_isNext),
  (7, 107, 0, 2, mX0_verdictOn),
  (7, 100, 0, 0, mX7_swap),
  (30, 74, 0, 2, mX12_force),
  (12, 244, 0, 3, mX4_forces),
  (4, 41, 0, 3, mX4_start),
  (4, 81, 1, 2, mJ7_fill_53178),
  (4, 87, 7, 0, mX8_xOf),
  (4, 53, 0, 2, mX4_tryAll),
  (4, 68, 0, 4, mX0_allows),
  (4, 74, 0, 2, mX10_moved),
  (4, 78, 0, 2, mX4_isWon),
  (4, 92, 0, 2, mX0_verdictOn),
  (4, 95, 0, 2, mX4_recalled),
  (4, 98, 0, 3, mX4_note),
  (30, 78, 0, 0, mX12_straight),
  (30, 82, 0, 2, mX12_reach),
  (30, 86, 0, 1, mX12_strong),
  (12, 248, 0, 2, mX4_strongString),
  (30, 90, 0, 1, mX12_free),
  (30, 94, 0, 0, mX12_worn),
  (30, 98, 0, 0, mX12_verdicts),
  (12, 255, 0, 1, mX5_poll),
  (5, 27, 1, 2, mJ7_fill_53178),
  (5, 46, 0, 3, mX0_votesOf),
  (0, 67, 0, 1, mX10_hasChild),
  (0, 73, 7, 0, mX8_xOf),
  (0, 78, 6, 0, mX8_xOf),
  (12, 258, 0, 0, mX5_likeliest),
  (30, 102, 0, 1, mX12_half),
  (12, 262, 0, 0, mX5_waysOfMost),
  (5, 52, 0, 1, mX5_waysOf),
  (12, 265, 0, 2, mX5_share),
  (5, 56, 1, 2, mX5_greatestDivisor),
  (30, 107, 0, 2, mX12_jury),
  (12, 272, 0, 1, mX5_waysOf),
  (30, 112, 0, 2, mX12_precedent),
  (12, 278, 0, 1, mX3_hasPrecedent),
  (30, 116, 0, 1, mX12_nearest),
  (12, 290, 0, 2, mX3_nearestTo),
  (3, 84, 0, 3, mX3_distance),
  (3, 74, 0, 1, mX3_hasPrecedent),
  (3, 78, 8, 0, mX8_xOf),
  (12, 293, 0, 3, mX3_distance),
  (30, 120, 0, 0, mX12_clashes),
  (12, 297, 0, 0, mX3_clashing),
  (30, 124, 0, 1, mX12_paint),
  (12, 303, 0, 1, mX10_bestPainted),
  (10, 98, 0, 2, mX10_paintGap),
  (10, 101, 0, 1, mX10_hasPuppet),
  (10, 104, 8, 0, mX8_xOf),
  (30, 128, 0, 3, mX12_storms),
  (12, 306, 0, 2, mX12_verdictBySeed),
  (30, 133, 0, 3, mX12_tell),
  (12, 309, 0, 3, mX2_add),
  (30, 137, 0, 0, mX12_forget),
  (30, 141, 0, 2, mX12_cloth),
  (12, 312, 0, 2, mX2_asks),
  (12, 315, 0, 3, mX2_walk),
  (2, 49, 7, 0, mX8_xOf),
  (2, 55, 1, 2, mJ7_fill_53178),
  (2, 61, 0, 2, mX2_goOn),
  (2, 65, 0, 1, mX2_countRow),
  (2, 81, 1, 2, mX8_xOf),
  (2, 74, 0, 2, mX10_moved),
  (2, 77, 0, 2, mX2_fits),
  (30, 145, 0, 3, mX12_sure),
  (30, 149, 0, 2, mX12_look),
  (12, 324, 0, 0, mX2_tellingPuppet),
  (2, 90, 6, 0, mX8_xOf),
  (30, 153, 0, 1, mX12_hold),
  (12, 327, 0, 2, mX6_putInSlot),
  (30, 158, 0, 1, mX12_restore),
  (12, 331, 0, 2, mX6_takeFromSlot),
  (30, 162, 0, 1, mX12_count),
  (12, 337, 0, 0, mX6_slotsHeld),
  (6, 41, 1, 1, mJ6_bitCount_0f7a4),
  (12, 346, 0, 0, mX12_mayBits),
  (30, 12, 2, 0, mX13_init),
  (13, 7, 4, 0, mX8_xOf),
  (13, 158, 0, 1, mX13_plain),
  (13, 162, 1, 7, mX13_word),
  (13, 183, 1, 2, mX13_appends),
  (13, 166, 0, 0, mX13_begins),
  (13, 323, 0, 0, mX13_opens),
  (13, 169, 0, 0, mX13_keepsRow),
  (30, 17, 0, 5, mX13_feed),
  (13, 175, 0, 1, mX13_put),
  (30, 22, 0, 1, mX13_back),
  (30, 27, 0, 0, mX13_read),
  (13, 233, 0, 0, mX13_cut),
  (13, 190, 0, 1, mX13_byteAt),
  (13, 194, 0, 4, mX13_token),
  (13, 198, 1, 1, mX13_isLetter),
  (13, 202, 1, 1, mX13_isDigit),
  (13, 205, 0, 3, mX13_sign),
  (13, 227, 0, 1, mX13_is),
  (13, 254, 0, 0, mX13_tellOne),
  (13, 263, 0, 2, mX13_roomFor),
  (13, 224, 0, 1, mX13_fail),
  (13, 230, 0, 0, mX13_goesOn),
  (13, 267, 0, 0, mX13_tellPuppet),
  (13, 286, 0, 0, mX13_named),
  (13, 277, 0, 1, mX13_must),
  (13, 283, 0, 2, mX13_wrong),
  (13, 273, 0, 2, mX13_bounded),
  (13, 290, 0, 2, mX13_ends),
  (13, 270, 0, 0, mX13_tellString),
  (13, 293, 0, 0, mX13_knownPuppet),
  (13, 280, 0, 1, mX13_tellLaw),
  (13, 296, 0, 0, mX13_expression),
  (13, 308, 0, 0, mX13_unit),
  (13, 305, 0, 2, mX13_emit),
  (13, 311, 0, 1, mX13_comesOut),
  (13, 299, 0, 0, mX13_term),
  (30, 31, 0, 0, mX13_place),
  (30, 36, 0, 2, mX13_puppet),
  (13, 333, 0, 1, mX13_isPuppet),
  (13, 319, 1, 3, mX13_in),
  (30, 40, 0, 2, mX13_string),
  (13, 379, 0, 1, mX13_isString),
  (30, 44, 0, 1, mX13_court),
  (13, 382, 0, 0, mX13_copies),
  (13, 336, 0, 0, mX13_apartNow),
  (13, 339, 0, 0, mX13_tanglesNow),
  (13, 342, 0, 0, mX13_nodsNow),
  (30, 48, 0, 1, mX13_may),
  (13, 385, 0, 1, mX13_mayNow),
  (13, 360, 0, 2, mX13_mayPull),
  (13, 351, 0, 1, mX13_staysWithin),
  (13, 348, 0, 1, mX13_goesTo),
  (13, 354, 0, 0, mX13_looks),
  (13, 357, 0, 2, mX13_asks),
  (13, 345, 0, 2, mX13_termOf),
  (30, 52, 0, 1, mX13_pull),
  (13, 388, 0, 1, mX13_pulls),
  (13, 373, 0, 2, mX13_lotOf),
  (13, 330, 1, 2, mX13_mixed),
  (13, 367, 0, 1, mX13_moves),
  (13, 370, 0, 0, mX13_turnEnds),
  (13, 364, 0, 0, mX13_verdictNow),
  (13, 376, 0, 0, mX13_keepsCase),
  (13, 391, 0, 0, mX13_keeps),
  (30, 56, 0, 0, mX13_pass),
  (30, 60, 0, 0, mX13_open),
  (30, 65, 0, 0, mX13_undo),
  (30, 69, 0, 2, mX13_after),
  (13, 394, 0, 1, mX13_plays),
  (30, 73, 0, 2, mX13_shortest),
  (13, 397, 1, 1, mX13_sevens),
  (13, 400, 0, 2, mX13_isPlayed),
  (30, 77, 0, 2, mX13_force),
  (13, 406, 0, 2, mX13_forces),
  (13, 403, 0, 1, mX13_piles),
  (30, 89, 0, 1, mX13_strong),
  (30, 81, 0, 0, mX13_straight),
  (13, 413, 0, 2, mX13_fewest),
  (13, 409, 0, 4, mX13_leadsTo),
  (30, 85, 0, 2, mX13_reach),
  (30, 93, 0, 1, mX13_free),
  (30, 97, 0, 0, mX13_worn),
  (30, 111, 0, 2, mX13_jury),
  (13, 419, 0, 0, mX13_fillsVotes),
  (13, 422, 0, 2, mX13_lineOf),
  (13, 416, 1, 2, mX13_common),
  (30, 101, 0, 0, mX13_verdicts),
  (30, 106, 0, 1, mX13_half),
  (30, 115, 0, 2, mX13_precedent),
  (30, 119, 0, 1, mX13_nearest),
  (13, 426, 1, 2, mX13_off),
  (30, 123, 0, 0, mX13_clashes),
  (30, 127, 0, 1, mX13_paint),
  (13, 429, 0, 2, mX13_offPaint),
  (30, 132, 0, 3, mX13_storms),
  (30, 136, 0, 3, mX13_tell),
  (30, 140, 0, 0, mX13_forget),
  (30, 144, 0, 2, mX13_cloth),
  (13, 435, 0, 2, mX13_isAsked),
  (13, 438, 0, 3, mX13_isCloth),
  (13, 432, 0, 2, mX13_isSeen),
  (30, 148, 0, 3, mX13_sure),
  (30, 152, 0, 2, mX13_look),
  (30, 157, 0, 1, mX13_hold),
  (30, 161, 0, 1, mX13_restore),
  (30, 165, 0, 1, mX13_count),
  (10, 51, 3, 0, mX1_init),
  (12, 29, 3, 0, mX9_init),
  (12, 45, 3, 0, mX3_init),
  (12, 52, 3, 0, mX6_init),
  (6, 30, 3, 0, mX3_init)]
def am_lk (c i : Nat) : Option (Nat × Nat × am_MM) := (am_LK.find? (fun e => e.1 == c && e.2.1 == i)).map (fun e => e.2.2)
/-- fields: class, pool index, kind of object, number of the field -/
def am_FL : List (Nat × Nat × Nat × Nat) := [
  (1, 11, 1, 0),
  (1, 15, 1, 1),
  (1, 18, 1, 2),
  (1, 21, 1, 3),
  (9, 169, 1, 3),
  (10, 9, 9, 0),
  (2, 86, 9, 0),
  (9, 103, 9, 0),
  (12, 300, 9, 0),
  (10, 15, 9, 1),
  (4, 60, 9, 1),
  (2, 69, 9, 1),
  (7, 84, 9, 1),
  (9, 127, 9, 1),
  (12, 252, 9, 1),
  (10, 18, 9, 2),
  (5, 33, 9, 2),
  (9, 145, 9, 2),
  (12, 269, 9, 2),
  (10, 21, 9, 3),
  (9, 151, 9, 3),
  (10, 24, 9, 4),
  (12, 189, 9, 4),
  (9, 154, 9, 4),
  (10, 27, 9, 5),
  (12, 102, 9, 5),
  (9, 112, 9, 5),
  (10, 30, 9, 6),
  (12, 133, 9, 6),
  (9, 121, 9, 6),
  (10, 34, 9, 7),
  (0, 51, 9, 7),
  (12, 144, 9, 7),
  (9, 133, 9, 7),
  (10, 37, 9, 8),
  (0, 40, 9, 8),
  (12, 147, 9, 8),
  (9, 136, 9, 8),
  (10, 40, 9, 9),
  (12, 150, 9, 9),
  (9, 139, 9, 9),
  (10, 43, 9, 10),
  (12, 153, 9, 10),
  (9, 142, 9, 10),
  (10, 46, 9, 11),
  (0, 70, 9, 11),
  (9, 148, 9, 11),
  (10, 52, 9, 12),
  (0, 57, 9, 12),
  (9, 157, 9, 12),
  (10, 56, 9, 13),
  (11, 11, 10, 0),
  (11, 15, 10, 1),
  (11, 19, 10, 2),
  (11, 22, 10, 3),
  (11, 25, 10, 4),
  (11, 29, 10, 5),
  (11, 33, 10, 6),
  (11, 36, 10, 7),
  (11, 39, 10, 8),
  (9, 56, 10, 8),
  (11, 42, 10, 9),
  (9, 82, 10, 9),
  (11, 45, 10, 10),
  (9, 91, 10, 10),
  (9, 12, 8, 0),
  (9, 18, 8, 1),
  (9, 22, 8, 2),
  (9, 26, 8, 3),
  (9, 30, 8, 4),
  (9, 33, 8, 5),
  (9, 36, 8, 6),
  (9, 42, 8, 7),
  (12, 96, 8, 7),
  (9, 46, 8, 8),
  (12, 95, 8, 8),
  (0, 15, 0, 0),
  (0, 11, 0, 1),
  (3, 9, 3, 0),
  (4, 50, 3, 0),
  (5, 38, 3, 0),
  (7, 68, 3, 0),
  (12, 118, 3, 0),
  (3, 15, 3, 1),
  (5, 43, 3, 1),
  (4, 65, 3, 1),
  (7, 75, 3, 1),
  (12, 162, 3, 1),
  (3, 18, 3, 2),
  (4, 57, 3, 2),
  (7, 78, 3, 2),
  (12, 159, 3, 2),
  (3, 21, 3, 3),
  (4, 45, 3, 3),
  (7, 63, 3, 3),
  (12, 174, 3, 3),
  (3, 24, 3, 4),
  (12, 227, 3, 4),
  (3, 27, 3, 5),
  (12, 192, 3, 5),
  (3, 30, 3, 6),
  (12, 198, 3, 6),
  (3, 33, 3, 7),
  (12, 340, 3, 7),
  (3, 36, 3, 8),
  (12, 343, 3, 8),
  (3, 39, 3, 9),
  (12, 275, 3, 9),
  (3, 42, 3, 10),
  (12, 156, 3, 10),
  (3, 46, 3, 11),
  (12, 281, 3, 11),
  (3, 49, 3, 12),
  (12, 284, 3, 12),
  (3, 52, 3, 13),
  (12, 287, 3, 13),
  (6, 11, 6, 0),
  (6, 17, 6, 1),
  (6, 20, 6, 2),
  (6, 24, 6, 3),
  (6, 27, 6, 4),
  (12, 334, 6, 4),
  (7, 43, 7, 0),
  (7, 47, 7, 1),
  (7, 11, 7, 2),
  (7, 15, 7, 3),
  (7, 18, 7, 4),
  (7, 21, 7, 5),
  (7, 24, 7, 6),
  (7, 28, 7, 7),
  (7, 31, 7, 8),
  (7, 34, 7, 9),
  (7, 37, 7, 10),
  (7, 40, 7, 11),
  (12, 241, 7, 11),
  (4, 33, 4, 0),
  (4, 37, 4, 1),
  (4, 13, 4, 2),
  (4, 16, 4, 3),
  (4, 20, 4, 4),
  (4, 24, 4, 5),
  (4, 27, 4, 6),
  (4, 30, 4, 7),
  (5, 19, 5, 0),
  (5, 23, 5, 1),
  (5, 9, 5, 2),
  (5, 15, 5, 3),
  (2, 45, 2, 0),
  (2, 9, 2, 1),
  (2, 15, 2, 2),
  (2, 18, 2, 3),
  (2, 21, 2, 4),
  (2, 26, 2, 5),
  (2, 29, 2, 6),
  (2, 33, 2, 7),
  (2, 36, 2, 8),
  (12, 321, 2, 8),
  (2, 39, 2, 9),
  (12, 318, 2, 9),
  (2, 42, 2, 10),
  (12, 111, 2, 10),
  (12, 9, 11, 0),
  (12, 13, 11, 1),
  (12, 17, 11, 2),
  (12, 23, 11, 3),
  (12, 30, 11, 4),
  (12, 39, 11, 5),
  (12, 46, 11, 6),
  (12, 53, 11, 7),
  (12, 62, 11, 8),
  (12, 69, 11, 9),
  (12, 76, 11, 10),
  (12, 83, 11, 11),
  (13, 13, 12, 1),
  (13, 172, 12, 2),
  (13, 17, 12, 3),
  (13, 178, 12, 4),
  (13, 20, 12, 5),
  (13, 24, 12, 6),
  (13, 27, 12, 7),
  (13, 30, 12, 8),
  (13, 34, 12, 9),
  (13, 187, 12, 10),
  (13, 212, 12, 11),
  (13, 236, 12, 12),
  (13, 209, 12, 13),
  (13, 215, 12, 14),
  (13, 218, 12, 15),
  (13, 221, 12, 16),
  (13, 37, 12, 17),
  (13, 239, 12, 18),
  (13, 242, 12, 19),
  (13, 245, 12, 20),
  (13, 40, 12, 21),
  (13, 43, 12, 22),
  (13, 46, 12, 23),
  (13, 49, 12, 24),
  (13, 52, 12, 25),
  (13, 55, 12, 26),
  (13, 58, 12, 27),
  (13, 61, 12, 28),
  (13, 64, 12, 29),
  (13, 67, 12, 30),
  (13, 70, 12, 31),
  (13, 73, 12, 32),
  (13, 76, 12, 33),
  (13, 79, 12, 34),
  (13, 82, 12, 35),
  (13, 85, 12, 36),
  (13, 248, 12, 37),
  (13, 88, 12, 38),
  (13, 92, 12, 39),
  (13, 95, 12, 40),
  (13, 98, 12, 41),
  (13, 101, 12, 42),
  (13, 251, 12, 43),
  (13, 104, 12, 44),
  (13, 107, 12, 45),
  (13, 110, 12, 46),
  (13, 302, 12, 47),
  (13, 113, 12, 48),
  (13, 116, 12, 49),
  (13, 315, 12, 50),
  (13, 119, 12, 51),
  (13, 122, 12, 52),
  (13, 326, 12, 53),
  (13, 257, 12, 54),
  (13, 125, 12, 55),
  (13, 128, 12, 56),
  (13, 131, 12, 57),
  (13, 134, 12, 58),
  (13, 137, 12, 59),
  (13, 260, 12, 60),
  (13, 140, 12, 61),
  (13, 143, 12, 62),
  (13, 146, 12, 63),
  (13, 149, 12, 64),
  (13, 152, 12, 65),
  (13, 155, 12, 66)]
def am_fl (c i : Nat) : Option (Nat × Nat) := (am_FL.find? (fun e => e.1 == c && e.2.1 == i)).map (fun e => e.2.2)
def am_CL : List (Nat × Nat × Nat) := [(30, 7, 11), (12, 20, 9), (10, 49, 1), (12, 27, 8), (9, 9, 10), (9, 39, 9), (12, 34, 0), (12, 43, 3), (12, 50, 6), (6, 9, 3), (12, 57, 7), (12, 66, 4), (12, 73, 5), (12, 80, 2), (30, 10, 12)]
def am_cl (c i : Nat) : Option Nat := (am_CL.find? (fun e => e.1 == c && e.2.1 == i)).map (fun e => e.2.2)
def am_KC : List (Nat × Nat × Int32) := [(22, 227, 65536), (28, 110, 55232), (28, 76, 56320), (24, 265, 1431655765), (24, 266, 858993459), (24, 267, 252645135), (10, 96, 1103515245), (10, 97, 1000000), (2, 89, 1000000), (13, 329, 1103515245)]
def am_kc (c i : Nat) : Option Int32 := (am_KC.find? (fun e => e.1 == c && e.2.1 == i)).map (fun e => e.2.2)
def am_sh0 : List (Nat × Nat) := [(11, 12), (21, 2000), (9, 14), (20, 5), (20, 7), (20, 7), (20, 7), (20, 7), (20, 7), (1, 4), (20, 406), (20, 3), (20, 32), (20, 3), (8, 9), (10, 11), (23, 20), (20, 401), (20, 401), (23, 401), (21, 0), (23, 12), (20, 12), (9, 14), (20, 5), (20, 7), (20, 7), (20, 7), (20, 7), (20, 7), (1, 4), (20, 406), (20, 3), (20, 32), (20, 3), (0, 2), (20, 9), (3, 14), (20, 7), (20, 12), (20, 12), (20, 12), (6, 5), (24, 40), (24, 3), (7, 12), (20, 210), (20, 210), (20, 210), (20, 210), (4, 8), (25, 5), (20, 330), (20, 330), (20, 330), (20, 330), (20, 330), (20, 5), (5, 4), (20, 8), (2, 11), (20, 20), (20, 20), (20, 20), (20, 5), (25, 5), (20, 10), (20, 10), (20, 10), (20, 10), (20, 10), (20, 5), (12, 67), (21, 2000), (21, 2000), (20, 403), (20, 403), (20, 403), (23, 403), (23, 20), (23, 12), (20, 12), (20, 2), (20, 10), (20, 10), (20, 2), (20, 14), (20, 14), (20, 14), (20, 14), (20, 2), (20, 14), (20, 2), (20, 2), (20, 6), (20, 6), (22, 260), (20, 260), (20, 260), (20, 260), (20, 260), (20, 840), (20, 840), (20, 64), (20, 9), (20, 400), (20, 68), (20, 68), (20, 2720), (20, 108), (20, 6), (22, 6), (20, 8), (20, 20), (20, 20), (20, 20), (20, 50), (22, 3), (20, 204)]
/-- the shape of the k-th cell that is made: kind (below 20: an object; 20 int, 21 byte, 22 boolean, 23 long, 24 Course, 25 int[]), length -/
def am_SH (k : Nat) : Nat × Nat := if k < 119 then am_sh0.getD k (99, 0) else match (k - 119) % 5 with
  | 0 => (3, 14)
  | 1 => (20, 7)
  | _ => (20, 12)
def am_tyL : List (Nat → FieldType) := [tyX0, tyX1, tyX2, tyX3, tyX4, tyX5, tyX6, tyX7, tyX9, tyX10, tyX11, tyX12, tyX13]
def am_ty (ci : Nat) : Nat → FieldType := am_tyL.getD ci tyX0
