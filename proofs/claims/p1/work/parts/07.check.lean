/-! WHAT THE WORDS OF THE TABLES SAY OF EACH INSTRUCTION: checked by program -/
abbrev jN : Type := MethodName × ByteArray × Nat × Option FieldType
def jYL : List jN := [(yX0_init, cX0_init, 1, none),
  (yX0_packed, cX0_packed, 7, some (.array .long)),
  (yX0_parse, cX0_parse, 4, some .boolean),
  (yX0_readTokens, cX0_readTokens, 6, none),
  (yX0_token, cX0_token, 12, some .int),
  (yX0_isLetter, cX0_isLetter, 1, some .boolean),
  (yX0_isDigit, cX0_isDigit, 1, some .boolean),
  (yX0_fail, cX0_fail, 3, some .int),
  (yX0_isNow, cX0_isNow, 2, some .boolean),
  (yX0_isNowKey, cX0_isNowKey, 2, some .boolean),
  (yX0_keyNow, cX0_keyNow, 1, some .int),
  (yX0_expect, cX0_expect, 2, some .boolean),
  (yX0_heading, cX0_heading, 5, some .long),
  (yX0_letStatement, cX0_letStatement, 4, none),
  (yX0_ruleStatement, cX0_ruleStatement, 4, none),
  (yX0_tableStatement, cX0_tableStatement, 4, none),
  (yX0_point, cX0_point, 6, none),
  (yX0_signedNumber, cX0_signedNumber, 3, some .int),
  (yX0_tell, cX0_tell, 5, none),
  (yX0_newName, cX0_newName, 3, some .long),
  (yX0_find, cX0_find, 5, some .int),
  (yX0_condition, cX0_condition, 6, some .int),
  (yX0_bothOf, cX0_bothOf, 6, some .int),
  (yX0_join, cX0_join, 4, some .int),
  (yX0_negation, cX0_negation, 4, some .int),
  (yX0_sum, cX0_sum, 7, some .int),
  (yX0_product, cX0_product, 7, some .int),
  (yX0_factor, cX0_factor, 3, some .int),
  (yX0_inBrackets, cX0_inBrackets, 3, some .int),
  (yX0_choice, cX0_choice, 5, some .int),
  (yX0_series, cX0_series, 9, some .int),
  (yX0_meaning, cX0_meaning, 8, some .int),
  (yX1_init, cX1_init, 1, none),
  (yX1_build, cX1_build, 4, none),
  (yX1_level, cX1_level, 13, some .int),
  (yX1_measure, cX1_measure, 20, none),
  (yX1_weigh, cX1_weigh, 23, none),
  (yX2_init, cX2_init, 1, none),
  (yX2_byteAt, cX2_byteAt, 2, some .int),
  (yX2_append, cX2_append, 6, some .boolean),
  (yX2_addBytes, cX2_addBytes, 4, none),
  (yX2_number, cX2_number, 5, some .int),
  (yX2_changesIn, cX2_changesIn, 2, some .int),
  (yX2_placeIn, cX2_placeIn, 3, some .int),
  (yX2_endOf, cX2_endOf, 3, some .int),
  (yX2_play, cX2_play, 6, none),
  (yX3_init, cX3_init, 1, none),
  (yX3_setLeast, cX3_setLeast, 3, none),
  (yX3_copy, cX3_copy, 2, none),
  (yX3_at, cX3_at, 2, some .int),
  (yX3_set, cX3_set, 3, none),
  (yX3_of, cX3_of, 5, some .int),
  (yX3_textBytes, cX3_textBytes, 1, some .int),
  (yX3_textByte, cX3_textByte, 2, some .int),
  (yX3_kindOf, cX3_kindOf, 2, some .int),
  (yX3_kinds, cX3_kinds, 3, some .int),
  (yX3_bottom, cX3_bottom, 3, some .int),
  (yX3_deck, cX3_deck, 2, some .int),
  (yX3_room, cX3_room, 6, some .int),
  (yX3_steelOf, cX3_steelOf, 10, some .long),
  (yX3_firstFault, cX3_firstFault, 3, some .int),
  (yX3_isRight, cX3_isRight, 3, some .boolean),
  (yX3_inOrder, cX3_inOrder, 4, some .boolean),
  (yX3_spaceRight, cX3_spaceRight, 3, some .boolean),
  (yX3_meet, cX3_meet, 7, some .boolean),
  (yX3_fillRight, cX3_fillRight, 3, some .boolean),
  (yX3_openingRight, cX3_openingRight, 4, some .boolean),
  (yX3_plateRight, cX3_plateRight, 4, some .boolean),
  (yX3_taskRight, cX3_taskRight, 6, some .boolean),
  (yX4_init, cX4_init, 1, none),
  (yX4_begin, cX4_begin, 2, none),
  (yX4_set, cX4_set, 4, none),
  (yX4_see, cX4_see, 4, some .int),
  (yX4_clash, cX4_clash, 3, some .int),
  (yX4_lay, cX4_lay, 3, none),
  (yX4_rowsWritten, cX4_rowsWritten, 3, some .int),
  (yX5_init, cX5_init, 1, none),
  (yX5_hasWay, cX5_hasWay, 2, some .boolean),
  (yX5_costOf, cX5_costOf, 2, some .int),
  (yX5_leadAll, cX5_leadAll, 3, none),
  (yX5_endOf, cX5_endOf, 3, some .int),
  (yX5_cellAt, cX5_cellAt, 3, some .int),
  (yX5_takeSolid, cX5_takeSolid, 6, none),
  (yX5_bar, cX5_bar, 9, none),
  (yX5_leadOne, cX5_leadOne, 5, none),
  (yX5_neighbour, cX5_neighbour, 5, some .int),
  (yX5_costOfStep, cX5_costOfStep, 1, some .int),
  (yX5_search, cX5_search, 11, some .int),
  (yX5_offer, cX5_offer, 4, none),
  (yX5_drop, cX5_drop, 2, none),
  (yX5_walk, cX5_walk, 9, none),
  (yX5_bestStep, cX5_bestStep, 7, some .int),
  (yX6_init, cX6_init, 1, none),
  (yX6_clear, cX6_clear, 1, none),
  (yX6_add, cX6_add, 6, some .int),
  (yX7_init, cX7_init, 2, none),
  (yX7_rests, cX7_rests, 1, some .boolean),
  (yX7_hasLiquid, cX7_hasLiquid, 2, some .boolean),
  (yX7_liquidLevel, cX7_liquidLevel, 2, some .int),
  (yX7_pointsIn, cX7_pointsIn, 4, some .int),
  (yX7_plane, cX7_plane, 3, some .int),
  (yX7_alongShip, cX7_alongShip, 8, some .long),
  (yX7_come, cX7_come, 7, some .int),
  (yX7_load, cX7_load, 5, none),
  (yX7_seaSet, cX7_seaSet, 1, some .int),
  (yX7_heel, cX7_heel, 11, some .int),
  (yX7_lever, cX7_lever, 7, some .long),
  (yX7_turning, cX7_turning, 3, some .long),
  (yX7_tilt, cX7_tilt, 6, some .int),
  (yX7_layDown, cX7_layDown, 4, none),
  (yX7_flooded, cX7_flooded, 6, some .int),
  (yX7_loadSlices, cX7_loadSlices, 7, none),
  (yX8_init, cX8_init, 1, none),
  (yX8_fill, cX8_fill, 6, none),
  (yX8_largest, cX8_largest, 7, some .int),
  (yX8_shapePlate, cX8_shapePlate, 8, none),
  (yX8_placeAll, cX8_placeAll, 7, none),
  (yX8_placeInRow, cX8_placeInRow, 7, some .boolean),
  (yX8_fits, cX8_fits, 8, some .boolean),
  (yX8_lay, cX8_lay, 10, none),
  (yX8_pieceTold, cX8_pieceTold, 3, some .int),
  (yX8_sheetTold, cX8_sheetTold, 3, some .int),
  (yX8_piecesOn, cX8_piecesOn, 4, some .int),
  (yX8_ownerAt, cX8_ownerAt, 4, some .int),
  (yX8_cellsOn, cX8_cellsOn, 5, some .int),
  (yX8_usedRows, cX8_usedRows, 5, some .int),
  (yX8_edgesOn, cX8_edgesOn, 6, some .int),
  (yX8_findRests, cX8_findRests, 5, none),
  (yX8_restFrom, cX8_restFrom, 7, some .int),
  (yX8_reach, cX8_reach, 6, some .int),
  (yX9_init, cX9_init, 1, none),
  (yX9_cutRods, cX9_cutRods, 3, none),
  (yX9_cutFrom, cX9_cutFrom, 8, some .boolean),
  (yX9_isPlanned, cX9_isPlanned, 2, some .boolean),
  (yX9_beginOf, cX9_beginOf, 2, some .int),
  (yX9_planWork, cX9_planWork, 3, none),
  (yX9_tryOrders, cX9_tryOrders, 9, none),
  (yX9_firstDay, cX9_firstDay, 9, some .int),
  (yX9_occupy, cX9_occupy, 9, none),
  (yX10_init, cX10_init, 6, none),
  (yX10_judge, cX10_judge, 4, some .int),
  (yX10_letPart, cX10_letPart, 3, some .long),
  (yX10_workOutLets, cX10_workOutLets, 3, none),
  (yX10_isOver, cX10_isOver, 1, some .boolean),
  (yX10_truth, cX10_truth, 4, some .int),
  (yX10_chainTruth, cX10_chainTruth, 8, some .int),
  (yX10_comparison, cX10_comparison, 9, some .int),
  (yX10_number, cX10_number, 4, none),
  (yX10_letWord, cX10_letWord, 2, none),
  (yX10_chain, cX10_chain, 9, none),
  (yX10_choice, cX10_choice, 4, none),
  (yX10_series, cX10_series, 14, none),
  (yX10_keepBetter, cX10_keepBetter, 7, none),
  (yX10_tableAt, cX10_tableAt, 10, none),
  (yX10_between, cX10_between, 6, none),
  (yX10_word, cX10_word, 2, none),
  (yX10_wordOfRest, cX10_wordOfRest, 2, none),
  (yX10_wordOf, cX10_wordOf, 10, none),
  (yX10_draught, cX10_draught, 2, none),
  (yX10_alongShip, cX10_alongShip, 3, none),
  (yX10_second, cX10_second, 4, none),
  (yX10_undone, cX10_undone, 1, none),
  (yX10_set, cX10_set, 12, none),
  (yX10_isBeyond, cX10_isBeyond, 2, some .boolean),
  (yX10_times, cX10_times, 4, some .long),
  (yX10_act, cX10_act, 14, none),
  (yX10_compare, cX10_compare, 12, some .int),
  (yX11_init, cX11_init, 6, none),
  (yX11_open, cX11_open, 2, some .int),
  (yX11_put, cX11_put, 6, some .int),
  (yX11_get, cX11_get, 5, some .int),
  (yX11_feed, cX11_feed, 6, some .int),
  (yX11_tapeInt, cX11_tapeInt, 3, none),
  (yX11_cut, cX11_cut, 2, some .int),
  (yX11_write, cX11_write, 6, some .int),
  (yX11_tapedInt, cX11_tapedInt, 4, some .int),
  (yX11_commit, cX11_commit, 5, some .int),
  (yX11_leave, cX11_leave, 2, some .int),
  (yX11_undo, cX11_undo, 7, some .int),
  (yX11_model, cX11_model, 4, some .int),
  (yX11_log, cX11_log, 2, some .int),
  (yX11_crash, cX11_crash, 3, some .int),
  (yX11_reopen, cX11_reopen, 4, some .int),
  (yX11_told, cX11_told, 2, some .int),
  (yX11_transactions, cX11_transactions, 3, some .int),
  (yX11_settle, cX11_settle, 4, some .int),
  (yX11_markChanges, cX11_markChanges, 4, none),
  (yX11_forgetWork, cX11_forgetWork, 1, none),
  (yX11_isPerson, cX11_isPerson, 1, some .boolean),
  (yX11_isPlace, cX11_isPlace, 3, some .boolean),
  (yX11_mayBe, cX11_mayBe, 4, some .boolean),
  (yX11_placeOf, cX11_placeOf, 3, some .int),
  (yX11_rowOf, cX11_rowOf, 2, some .int),
  (yX11_sea, cX11_sea, 2, some .int),
  (yX11_rest, cX11_rest, 2, some .long),
  (yX11_water, cX11_water, 3, some .int),
  (yX11_liquid, cX11_liquid, 2, some .int),
  (yX11_arm, cX11_arm, 2, some .long),
  (yX11_along, cX11_along, 3, some .long),
  (yX11_rules, cX11_rules, 2, some .int),
  (yX11_verdict, cX11_verdict, 2, some .int),
  (yX11_steps, cX11_steps, 2, some .int),
  (yX11_let, cX11_let, 3, some .long),
  (yX11_nest, cX11_nest, 2, some .int),
  (yX11_piece, cX11_piece, 3, some .int),
  (yX11_sheet, cX11_sheet, 3, some .int),
  (yX11_bars, cX11_bars, 1, some .int),
  (yX11_rod, cX11_rod, 2, some .int),
  (yX11_lead, cX11_lead, 1, some .int),
  (yX11_way, cX11_way, 3, some .int),
  (yX11_step, cX11_step, 3, some .int),
  (yX11_plan, cX11_plan, 1, some .int),
  (yX11_task, cX11_task, 3, some .int),
  (yX12_init, cX12_init, 5, none),
  (yX12_at, cX12_at, 4, some .int),
  (yX12_least, cX12_least, 2, some .int),
  (yX12_most, cX12_most, 2, some .int),
  (yX12_first, cX12_first, 6, none),
  (yX12_isField, cX12_isField, 4, some .boolean),
  (yX12_isPerson, cX12_isPerson, 1, some .boolean),
  (yX12_open, cX12_open, 2, some .int),
  (yX12_end, cX12_end, 3, none),
  (yX12_set, cX12_set, 4, none),
  (yX12_put, cX12_put, 6, some .int),
  (yX12_get, cX12_get, 6, some .int),
  (yX12_feed, cX12_feed, 6, some .int),
  (yX12_lay, cX12_lay, 3, none),
  (yX12_cut, cX12_cut, 2, some .int),
  (yX12_write, cX12_write, 6, some .int),
  (yX12_commit, cX12_commit, 3, some .int),
  (yX12_take, cX12_take, 6, some .int),
  (yX12_logBytes, cX12_logBytes, 4, none),
  (yX12_logNumber, cX12_logNumber, 5, some .int),
  (yX12_leave, cX12_leave, 4, some .int),
  (yX12_undo, cX12_undo, 7, some .int),
  (yX12_replay, cX12_replay, 5, some .int),
  (yX12_model, cX12_model, 4, some .int),
  (yX12_log, cX12_log, 2, some .int),
  (yX12_crash, cX12_crash, 3, some .int),
  (yX12_reopen, cX12_reopen, 4, some .int),
  (yX12_isWhole, cX12_isWhole, 2, some .boolean),
  (yX12_told, cX12_told, 4, some .int),
  (yX12_wrongRow, cX12_wrongRow, 4, some .int),
  (yX12_isRight, cX12_isRight, 5, some .boolean),
  (yX12_isSpaceRight, cX12_isSpaceRight, 10, some .boolean),
  (yX12_isPlateRight, cX12_isPlateRight, 5, some .boolean),
  (yX12_isTaskRight, cX12_isTaskRight, 6, some .boolean),
  (yX12_bottom, cX12_bottom, 4, some .int),
  (yX12_roomOf, cX12_roomOf, 9, some .int),
  (yX12_forget, cX12_forget, 1, none),
  (yX12_word, cX12_word, 4, some .long),
  (yX12_among, cX12_among, 7, some .int),
  (yX12_textByte, cX12_textByte, 3, some .int),
  (yX12_fails, cX12_fails, 3, some .boolean),
  (yX12_isLetter, cX12_isLetter, 1, some .boolean),
  (yX12_isDigit, cX12_isDigit, 1, some .boolean),
  (yX12_tokenize, cX12_tokenize, 9, some .boolean),
  (yX12_token, cX12_token, 5, none),
  (yX12_is, cX12_is, 2, some .boolean),
  (yX12_isWord, cX12_isWord, 2, some .boolean),
  (yX12_want, cX12_want, 2, some .boolean),
  (yX12_parse, cX12_parse, 2, some .boolean),
  (yX12_statement, cX12_statement, 6, none),
  (yX12_name, cX12_name, 5, some .long),
  (yX12_table, cX12_table, 8, none),
  (yX12_signed, cX12_signed, 4, some .long),
  (yX12_node, cX12_node, 7, some .int),
  (yX12_or, cX12_or, 3, some .int),
  (yX12_and, cX12_and, 3, some .int),
  (yX12_not, cX12_not, 4, some .int),
  (yX12_sum, cX12_sum, 4, some .int),
  (yX12_product, cX12_product, 4, some .int),
  (yX12_factor, cX12_factor, 6, some .int),
  (yX12_choice, cX12_choice, 5, some .int),
  (yX12_over, cX12_over, 8, some .int),
  (yX12_named, cX12_named, 6, some .int),
  (yX12_alone, cX12_alone, 2, some .int),
  (yX12_asked, cX12_asked, 3, some .int),
  (yX12_times, cX12_times, 9, some .long),
  (yX12_common, cX12_common, 10, some .long),
  (yX12_result, cX12_result, 7, none),
  (yX12_undone, cX12_undone, 1, none),
  (yX12_act, cX12_act, 14, none),
  (yX12_compare, cX12_compare, 13, some .int),
  (yX12_step, cX12_step, 1, none),
  (yX12_value, cX12_value, 7, none),
  (yX12_rounds, cX12_rounds, 14, none),
  (yX12_looked, cX12_looked, 14, none),
  (yX12_whole, cX12_whole, 3, none),
  (yX12_part, cX12_part, 5, none),
  (yX12_says, cX12_says, 8, some .int),
  (yX12_yardWord, cX12_yardWord, 2, none),
  (yX12_rests, cX12_rests, 1, some .boolean),
  (yX12_yardOf, cX12_yardOf, 12, none),
  (yX12_rules, cX12_rules, 2, some .int),
  (yX12_judge, cX12_judge, 3, some .int),
  (yX12_verdict, cX12_verdict, 2, some .int),
  (yX12_steps, cX12_steps, 2, some .int),
  (yX12_let, cX12_let, 3, some .long),
  (yX12_isIn, cX12_isIn, 5, some .boolean),
  (yX12_isOpenSpace, cX12_isOpenSpace, 2, some .boolean),
  (yX12_layRuns, cX12_layRuns, 11, none),
  (yX12_below, cX12_below, 10, some .long),
  (yX12_sums, cX12_sums, 11, none),
  (yX12_spaceLow, cX12_spaceLow, 6, some .int),
  (yX12_spaceHigh, cX12_spaceHigh, 5, some .int),
  (yX12_pointsBelow, cX12_pointsBelow, 14, some .long),
  (yX12_hasLiquid, cX12_hasLiquid, 2, some .boolean),
  (yX12_liquidPlane, cX12_liquidPlane, 9, some .int),
  (yX12_weightOfAll, cX12_weightOfAll, 5, some .long),
  (yX12_moments, cX12_moments, 8, none),
  (yX12_liquidMoments, cX12_liquidMoments, 16, none),
  (yX12_level, cX12_level, 6, some .int),
  (yX12_balance, cX12_balance, 3, none),
  (yX12_lengthwise, cX12_lengthwise, 5, some .long),
  (yX12_across, cX12_across, 4, some .long),
  (yX12_trim, cX12_trim, 5, some .int),
  (yX12_side, cX12_side, 3, some .int),
  (yX12_heel, cX12_heel, 7, some .int),
  (yX12_sea, cX12_sea, 3, some .int),
  (yX12_settle, cX12_settle, 2, none),
  (yX12_floods, cX12_floods, 8, some .boolean),
  (yX12_along, cX12_along, 8, none),
  (yX12_liquidLoads, cX12_liquidLoads, 10, none),
  (yX12_rest, cX12_rest, 2, some .long),
  (yX12_water, cX12_water, 3, some .int),
  (yX12_liquid, cX12_liquid, 2, some .int),
  (yX12_arm, cX12_arm, 3, some .long),
  (yX12_along_, cX12_along_, 3, some .long),
  (yX12_steel, cX12_steel, 11, some .long),
  (yX12_cellsOf, cX12_cellsOf, 5, some .int),
  (yX12_listPieces, cX12_listPieces, 5, none),
  (yX12_turned, cX12_turned, 7, none),
  (yX12_lies, cX12_lies, 9, some .boolean),
  (yX12_nest, cX12_nest, 3, some .int),
  (yX12_findPlace, cX12_findPlace, 9, none),
  (yX12_firstPlaceOf, cX12_firstPlaceOf, 5, some .long),
  (yX12_lay_, cX12_lay_, 8, none),
  (yX12_piece, cX12_piece, 3, some .int),
  (yX12_sheet, cX12_sheet, 7, some .int),
  (yX12_edges, cX12_edges, 10, some .int),
  (yX12_groups, cX12_groups, 15, some .int),
  (yX12_bars, cX12_bars, 3, some .int),
  (yX12_cutFrom, cX12_cutFrom, 8, some .boolean),
  (yX12_rod, cX12_rod, 2, some .int),
  (yX12_stepped, cX12_stepped, 7, some .int),
  (yX12_bar, cX12_bar, 8, none),
  (yX12_barAll, cX12_barAll, 7, none),
  (yX12_lead, cX12_lead, 2, some .int),
  (yX12_lead_, cX12_lead_, 15, none),
  (yX12_price, cX12_price, 2, some .int),
  (yX12_payBack, cX12_payBack, 6, none),
  (yX12_lower, cX12_lower, 3, none),
  (yX12_payAhead, cX12_payAhead, 5, none),
  (yX12_way, cX12_way, 3, some .int),
  (yX12_step_, cX12_step_, 3, some .int),
  (yX12_plan, cX12_plan, 4, some .int),
  (yX12_orders, cX12_orders, 6, none),
  (yX12_schedule, cX12_schedule, 9, none),
  (yX12_isRoom, cX12_isRoom, 4, some .boolean),
  (yX12_task, cX12_task, 3, some .int),
  (yJ6_bitCount_0f7a4, cJ6_bitCount_0f7a4, 1, some .int),
  (yJ13_compare_74951, cJ13_compare_74951, 4, some .int),
  (yJ7_fill_d0a16, cJ7_fill_d0a16, 5, none),
  (yJ7_fill_53178, cJ7_fill_53178, 4, none),
  (yJ7_fill_031fb, cJ7_fill_031fb, 4, none),
  (yX3_tasksWithDays, cX3_tasksWithDays, 3, some .int)]
def jY (k : Nat) : jN := jYL.getD k (⟨"", "", ""⟩, ⟨#[]⟩, 0, none)
def jtys : List (List Nat) := [[0, 0, 2, 2, 2, 2, 0, 0, 2, 2, 2, 2, 2, 2, 0, 2, 0], [2, 2, 2, 2, 2, 2, 2, 2, 2, 2, 1, 1, 1, 1, 1], [2, 0], [2], [3, 0, 2, 2, 2, 2], [3, 0, 2, 2, 2, 2, 2, 2, 2, 2, 2, 2, 0], [2, 2, 2, 2, 2, 2, 2, 2, 2, 2, 0, 0, 0, 0], [2, 2, 3, 2, 0, 0, 0, 1, 1, 2, 2, 2, 2, 2, 2, 2, 2, 2, 2], [3, 0, 0, 0, 0, 0, 0, 0, 2, 2, 2, 2, 2, 2, 2, 2, 2, 2, 2, 2], [3, 3, 0, 2, 2, 0, 2, 2, 0, 2, 2, 2, 2], [2, 2, 2, 2, 2, 2, 1, 1, 0, 2, 3, 2, 2, 2], [2, 2, 2, 2, 2, 2, 2, 0, 0, 0, 0, 3, 2, 2, 2, 2, 2, 2, 2, 2], [2, 2, 2, 2, 2, 2, 2, 2, 2, 2, 2, 2, 2, 2, 2, 0, 2, 0, 3, 2, 0, 0, 0, 0, 2, 2, 2, 0, 0, 0, 0, 2, 2, 2, 2, 2, 0, 2, 2, 0, 2, 2, 2, 2, 2, 0, 0, 2, 2, 0, 2, 2, 0, 3, 1, 1, 0, 3, 2, 3, 0, 0, 0, 1, 1, 1, 0, 0, 0, 2, 2, 2, 2, 2, 2, 2, 2, 2, 2, 1, 1, 1, 1, 1, 1, 1, 0, 3, 0, 0, 2, 2, 2, 2, 2, 2, 2, 2, 2, 0, 2, 2, 2, 3, 0, 2, 2, 3, 0, 2, 2, 2, 2, 2, 2, 2, 2, 2, 2, 0, 3, 0, 2, 2, 2, 2, 2, 2]]
def jty (c k : Nat) : Nat := (jtys.getD c []).getD k 9
def jsn : List String := ["ROWS", "FIELDS", "FIRST_ROW", "FIRST_PLACE", "FIRST_LIMIT", "LEAST", "MOST"]
def jtx : List String := ["let table rule if sum max min and or not ", "level trim heel water weight rounds length breadth placed left bars led end ", "draught force bend lever area axis second room fill price start ", "+-*/()[],;:=#<>", "+-*/()[],;:=#<>", "let", "table", "rule", " let table rule if sum max min and or not ", " level trim heel water weight rounds length breadth placed left bars led end ", " draught force bend lever area axis second room fill price start ", "not", "and", "or"]
def jtxo : List (String × Nat) := [("ShipYard$Grammar", 36), ("ShipYard$Grammar", 45), ("ShipYard$Grammar", 50), ("ShipYard$Grammar", 141), ("ShipYardModel", 411), ("ShipYardModel", 451), ("ShipYardModel", 457), ("ShipYardModel", 459), ("ShipYardModel", 476), ("ShipYardModel", 482), ("ShipYardModel", 484), ("ShipYardModel", 501), ("ShipYardModel", 500), ("ShipYardModel", 492)]
def jpos : List (List Nat) := [[312, 311, 0, 209, 2], [317, 316, 0, 209, 0], [1084, 1082, 1083, 209, 1], [1092, 1091, 12, 209, 1], [1105, 1104, 13, 209, 1], [1108, 1107, 0, 209, 0], [1111, 1110, 0, 209, 0], [1189, 1188, 18, 209, 1], [1177, 1176, 15, 209, 1], [1173, 1172, 14, 209, 1], [1197, 1196, 20, 209, 1], [1204, 1203, 21, 209, 1], [1185, 1184, 17, 209, 1], [1181, 1180, 16, 209, 1], [1272, 1271, 37, 209, 1], [1260, 1259, 34, 209, 1], [1264, 1263, 35, 209, 1], [1268, 1267, 36, 209, 1], [1256, 1255, 33, 209, 1], [1193, 1192, 19, 209, 1], [1200, 1199, 0, 209, 0], [1232, 1231, 27, 209, 1], [1236, 1235, 28, 209, 1], [1244, 1243, 30, 209, 1], [1240, 1239, 29, 209, 1], [1208, 1207, 22, 209, 1], [1212, 1211, 23, 209, 1], [1216, 1215, 24, 209, 1], [1224, 1223, 25, 209, 1], [1228, 1227, 26, 209, 1], [1248, 1247, 31, 209, 1], [1252, 1251, 32, 209, 1], [506, 505, 0, 216, 2], [1378, 1376, 1377, 216, 1], [1421, 1419, 1420, 216, 1], [1427, 1426, 47, 216, 1], [1404, 1402, 1403, 216, 1], [297, 296, 0, 208, 2], [1301, 1299, 1300, 208, 1], [1276, 1274, 1275, 208, 1], [1281, 1280, 38, 208, 1], [1297, 1296, 40, 208, 1], [1289, 1287, 1288, 208, 1], [1305, 1303, 1304, 208, 1], [1293, 1291, 1292, 208, 1], [1329, 1327, 1328, 208, 1], [238, 237, 0, 204, 2], [243, 241, 242, 204, 1], [1001, 999, 1000, 204, 1], [969, 967, 968, 204, 1], [1012, 1010, 1011, 204, 1], [1036, 1034, 1035, 204, 1], [1096, 1094, 1095, 204, 1], [1101, 1099, 1100, 204, 1], [1032, 1030, 1031, 204, 1], [1370, 1368, 1369, 204, 1], [1063, 1061, 1062, 204, 1], [1059, 1057, 1058, 204, 1], [1055, 1053, 1054, 204, 1], [1496, 1494, 1495, 204, 1], [1020, 1018, 1019, 204, 1], [1024, 1023, 3, 204, 1], [1040, 1039, 5, 204, 1], [1028, 1027, 4, 204, 1], [1044, 1043, 6, 204, 1], [1051, 1050, 7, 204, 1], [1067, 1066, 8, 204, 1], [1071, 1070, 9, 204, 1], [1075, 1074, 10, 204, 1], [270, 269, 0, 207, 2], [928, 926, 927, 207, 1], [957, 955, 956, 207, 1], [965, 963, 964, 207, 1], [997, 995, 996, 207, 1], [1008, 1006, 1007, 207, 1], [1320, 1318, 1319, 207, 1], [699, 698, 0, 218, 2], [1605, 1603, 1604, 218, 1], [1601, 1599, 1600, 218, 1], [1774, 1772, 1773, 218, 1], [1793, 1792, 0, 218, 0], [1784, 1783, 0, 218, 0], [1781, 1780, 88, 218, 1], [1788, 1787, 89, 218, 1], [1797, 1796, 90, 218, 1], [1814, 1813, 0, 218, 0], [1817, 1816, 0, 218, 0], [1801, 1800, 91, 218, 1], [1807, 1806, 92, 218, 1], [1811, 1810, 93, 218, 1], [1821, 1820, 94, 218, 1], [1825, 1824, 95, 218, 1], [429, 428, 0, 214, 2], [1088, 1086, 1087, 214, 1], [1220, 1218, 1219, 214, 1], [500, 499, 0, 215, 2], [1462, 1460, 1461, 215, 1], [1431, 1429, 1430, 215, 1], [1482, 1480, 1481, 215, 1], [1471, 1469, 1470, 215, 1], [1448, 1447, 51, 215, 1], [1500, 1498, 1499, 215, 1], [1374, 1372, 1373, 215, 1], [1386, 1385, 43, 215, 1], [1399, 1398, 44, 215, 1], [1408, 1407, 45, 215, 1], [1412, 1410, 1411, 215, 1], [1435, 1434, 48, 215, 1], [1417, 1416, 46, 215, 1], [1440, 1439, 49, 215, 1], [1444, 1443, 50, 215, 1], [1452, 1451, 52, 215, 1], [626, 625, 0, 217, 2], [1666, 1664, 1665, 217, 1], [1672, 1671, 0, 217, 0], [1682, 1681, 74, 217, 1], [1686, 1685, 75, 217, 1], [1690, 1689, 76, 217, 1], [1694, 1693, 77, 217, 1], [1698, 1697, 78, 217, 1], [1708, 1706, 1707, 217, 1], [1716, 1714, 1715, 217, 1], [1720, 1719, 79, 217, 1], [1728, 1727, 81, 217, 1], [1724, 1723, 80, 217, 1], [1732, 1731, 82, 217, 1], [1736, 1735, 83, 217, 1], [1740, 1739, 84, 217, 1], [1744, 1743, 85, 217, 1], [1748, 1747, 86, 217, 1], [753, 752, 0, 219, 2], [1756, 1754, 1755, 219, 1], [1761, 1760, 87, 219, 1], [1613, 1611, 1612, 219, 1], [1609, 1607, 1608, 219, 1], [1842, 1840, 1841, 219, 1], [1847, 1846, 96, 219, 1], [1852, 1851, 97, 219, 1], [1856, 1855, 98, 219, 1], [810, 809, 0, 220, 2], [1646, 1644, 1645, 220, 1], [1658, 1656, 1657, 220, 1], [1512, 1510, 1511, 220, 1], [1524, 1523, 55, 220, 1], [1625, 1624, 69, 220, 1], [1629, 1628, 70, 220, 1], [1633, 1632, 71, 220, 1], [1516, 1515, 53, 220, 1], [1540, 1539, 57, 220, 1], [1617, 1616, 67, 220, 1], [1621, 1620, 68, 220, 1], [1637, 1636, 72, 220, 1], [1641, 1640, 73, 220, 1], [1544, 1543, 58, 220, 1], [1558, 1557, 59, 220, 1], [1566, 1565, 61, 220, 1], [1571, 1570, 62, 220, 1], [1578, 1577, 63, 220, 1], [1586, 1585, 64, 220, 1], [1590, 1589, 65, 220, 1], [1596, 1595, 66, 220, 1], [1520, 1519, 54, 220, 1], [1528, 1527, 56, 220, 1], [1531, 1530, 0, 220, 0], [1550, 1549, 0, 220, 0], [1562, 1561, 60, 220, 1], [1547, 1546, 0, 220, 0], [230, 229, 0, 203, 2], [921, 919, 920, 203, 1], [935, 933, 934, 203, 1], [961, 959, 960, 203, 1], [973, 971, 972, 203, 1], [977, 976, 0, 203, 1], [981, 979, 980, 203, 1], [985, 983, 984, 203, 1], [989, 988, 1, 203, 1], [993, 991, 992, 203, 1], [1316, 1314, 1315, 203, 1], [1324, 1322, 1323, 203, 1], [1338, 1336, 1337, 203, 1], [1343, 1341, 1342, 203, 1], [1348, 1346, 1347, 203, 1], [1352, 1350, 1351, 203, 1], [1358, 1356, 1357, 203, 1], [1362, 1361, 42, 203, 1], [1016, 1015, 2, 203, 1], [1285, 1284, 39, 203, 1], [1312, 1311, 41, 203, 1], [924, 923, 0, 203, 0], [938, 937, 0, 203, 0], [943, 942, 0, 203, 0], [950, 949, 0, 203, 0], [1308, 1307, 0, 203, 0], [1366, 1364, 1365, 203, 1], [1456, 1454, 1455, 203, 1], [1467, 1465, 1466, 203, 1], [1477, 1475, 1476, 203, 1], [1486, 1484, 1485, 203, 1], [1492, 1490, 1491, 203, 1], [1504, 1502, 1503, 203, 1], [1508, 1506, 1507, 203, 1], [1650, 1648, 1649, 203, 1], [1654, 1652, 1653, 203, 1], [1662, 1660, 1661, 203, 1], [1704, 1702, 1703, 203, 1], [1712, 1710, 1711, 203, 1], [1752, 1750, 1751, 203, 1], [1766, 1764, 1765, 203, 1], [1770, 1768, 1769, 203, 1], [1829, 1827, 1828, 203, 1], [1834, 1832, 1833, 203, 1], [1838, 1836, 1837, 203, 1], [1861, 1859, 1860, 203, 1], [1867, 1866, 0, 221, 2], [1881, 1880, 100, 221, 1], [1877, 1876, 0, 221, 0], [2411, 2410, 0, 221, 0], [1874, 1873, 99, 221, 1], [2408, 2407, 126, 221, 1], [2396, 2395, 0, 221, 0], [2393, 2391, 2392, 221, 1], [2400, 2399, 125, 221, 1], [2418, 2417, 127, 221, 1], [2404, 2402, 2403, 221, 1], [2422, 2420, 2421, 221, 1], [2426, 2424, 2425, 221, 1], [2430, 2429, 128, 221, 1], [2434, 2432, 2433, 221, 1], [2438, 2436, 2437, 221, 1], [2442, 2440, 2441, 221, 1], [2446, 2445, 129, 221, 1], [2478, 2477, 137, 221, 1], [2498, 2497, 140, 221, 1], [2486, 2484, 2485, 221, 1], [2490, 2488, 2489, 221, 1], [2494, 2493, 139, 221, 1], [2502, 2500, 2501, 221, 1], [2506, 2504, 2505, 221, 1], [2510, 2508, 2509, 221, 1], [2514, 2512, 2513, 221, 1], [2518, 2517, 141, 221, 1], [2522, 2520, 2521, 221, 1], [2450, 2449, 130, 221, 1], [2454, 2453, 131, 221, 1], [2458, 2457, 132, 221, 1], [2470, 2469, 135, 221, 1], [2474, 2473, 136, 221, 1], [2466, 2465, 134, 221, 1], [2462, 2461, 133, 221, 1], [2482, 2481, 138, 221, 1], [1927, 1926, 0, 221, 0], [1939, 1938, 0, 221, 0], [1893, 1892, 103, 221, 1], [1900, 1899, 104, 221, 1], [1896, 1895, 0, 221, 0], [1907, 1906, 0, 221, 0], [1889, 1888, 102, 221, 1], [1904, 1903, 105, 221, 1], [1915, 1914, 106, 221, 1], [1924, 1923, 108, 221, 1], [1945, 1944, 110, 221, 1], [1885, 1884, 101, 221, 1], [1919, 1918, 107, 221, 1], [1935, 1934, 109, 221, 1], [2000, 1999, 123, 221, 1], [2004, 2003, 124, 221, 1], [1961, 1960, 114, 221, 1], [1969, 1968, 116, 221, 1], [1973, 1972, 117, 221, 1], [1977, 1976, 118, 221, 1], [1949, 1948, 111, 221, 1], [1953, 1952, 112, 221, 1], [1957, 1956, 113, 221, 1], [1965, 1964, 115, 221, 1], [1984, 1983, 119, 221, 1], [1988, 1987, 120, 221, 1], [1992, 1991, 121, 221, 1], [1996, 1995, 122, 221, 1], [2562, 2561, 149, 221, 1], [2575, 2574, 0, 221, 0], [2571, 2570, 151, 221, 1], [2550, 2549, 146, 221, 1], [2579, 2578, 152, 221, 1], [2558, 2557, 148, 221, 1], [2542, 2541, 144, 221, 1], [2546, 2545, 145, 221, 1], [2671, 2670, 173, 221, 1], [2554, 2553, 147, 221, 1], [2567, 2566, 150, 221, 1], [2592, 2591, 155, 221, 1], [2538, 2537, 143, 221, 1], [2583, 2582, 153, 221, 1], [2587, 2586, 154, 221, 1], [2597, 2596, 156, 221, 1], [2526, 2524, 2525, 221, 1], [2534, 2533, 142, 221, 1], [2530, 2528, 2529, 221, 1], [2675, 2673, 2674, 221, 1], [2679, 2677, 2678, 221, 1], [2697, 2696, 176, 221, 1], [2638, 2637, 165, 221, 1], [2693, 2692, 175, 221, 1], [2621, 2620, 161, 221, 1], [2625, 2624, 162, 221, 1], [2654, 2653, 169, 221, 1], [2650, 2649, 168, 221, 1], [2646, 2645, 167, 221, 1], [2634, 2633, 164, 221, 1], [2642, 2641, 166, 221, 1], [2701, 2700, 177, 221, 1], [2629, 2628, 163, 221, 1], [2658, 2657, 170, 221, 1], [2615, 2614, 160, 221, 1], [2611, 2610, 159, 221, 1], [2607, 2606, 158, 221, 1], [2663, 2662, 171, 221, 1], [2603, 2602, 157, 221, 1], [2709, 2708, 179, 221, 1], [2705, 2704, 178, 221, 1], [2684, 2682, 2683, 221, 1], [2689, 2688, 174, 221, 1], [2713, 2712, 180, 221, 1], [2717, 2716, 181, 221, 1], [2721, 2720, 182, 221, 1], [2725, 2723, 2724, 221, 1], [2732, 2730, 2731, 221, 1], [2736, 2734, 2735, 221, 1], [2740, 2738, 2739, 221, 1], [2744, 2742, 2743, 221, 1], [2667, 2666, 172, 221, 1], [2756, 2755, 184, 221, 1], [2752, 2751, 183, 221, 1], [2765, 2764, 186, 221, 1], [2773, 2772, 188, 221, 1], [2748, 2746, 2747, 221, 1], [2760, 2759, 185, 221, 1], [2769, 2768, 187, 221, 1], [2780, 2779, 189, 221, 1], [2784, 2782, 2783, 221, 1], [2788, 2786, 2787, 221, 1], [2796, 2795, 191, 221, 1], [2792, 2791, 190, 221, 1], [2800, 2798, 2799, 221, 1], [2804, 2803, 192, 221, 1], [2808, 2806, 2807, 221, 1], [2840, 2839, 0, 221, 0], [2820, 2819, 194, 221, 1], [2816, 2815, 193, 221, 1], [2812, 2810, 2811, 221, 1], [2824, 2823, 195, 221, 1], [2843, 2842, 0, 221, 0], [2828, 2827, 196, 221, 1], [2833, 2832, 197, 221, 1], [2837, 2836, 198, 221, 1], [2847, 2845, 2846, 221, 1], [2851, 2849, 2850, 221, 1], [2855, 2853, 2854, 221, 1], [2859, 2858, 199, 221, 1], [2863, 2862, 200, 221, 1], [2867, 2866, 201, 221, 1], [2871, 2869, 2870, 221, 1], [1675, 1674, 0, 225, 0], [1554, 1553, 0, 224, 0], [1389, 1388, 0, 205, 0], [246, 245, 0, 205, 0], [931, 930, 0, 205, 0], [1079, 1078, 11, 204, 1]]
def j_w (p : Nat) (w : Jvm.Cond) : Bool := decide (lw_tbl[p]? = some w)
def jlen : Instr → Nat
  | .bipush _ | .iload _ | .lload _ | .aload _ | .istore _ | .lstore _ | .astore _ | .ldc _ | .newarray _ => 2
  | .sipush _ | .ldc_w _ | .ldc2_w _ | .iinc _ _ | .goto _ | .ifCond _ _ | .if_icmp _ _ | .getfield _ | .putfield _ | .getstatic _ | .new _ | .anewarray _ | .invokestatic _ | .invokevirtual _ | .invokespecial _ => 3
  | _ => 1
def j_np (y : MethodName) (n : Nat) : Bool := decide ((parseMethodDescriptor y.desc).map (fun d => d.parameters.length) = some n)
def okF (own : String) (i : Nat) (aux : List Nat) : Bool := match aux with
  | [ci, k, tc, p, _] => match vwCl[ci]? with
    | some (C, T, N) => decide (k < N) && decide ((T k).1 = C) && decide (jty ci k = tc) && j_w p (.fieldLink own i C (T k).2.1 (T k).2.2.1)
    | none => false
  | _ => false
def okX (y : MethodName) (rt : Option FieldType) (e : jE) : Bool := match e.2.1 with
  | .iconst n => decide (e.2.2.2.2 = .int (Int32.ofInt n))
  | .bipush n => decide (e.2.2.2.2 = .int (Int8.ofInt n).toInt32)
  | .sipush n => decide (e.2.2.2.2 = .int (Int16.ofInt n).toInt32)
  | .lconst n => decide (e.2.2.2.2 = .long (Int64.ofNat (n : Nat)))
  | .ldc i => match e.2.2.2.2, e.2.2.2.1 with
    | .int v, [p] => j_w p (.constant y.cls i v)
    | .ref a, [p] => j_w p (.stringRef y.cls i (jtx.getD (a - 2000) "")) && decide (2000 ≤ a) && decide (a < 2014) && decide (jtxo.getD (a - 2000) ("", 0) = (y.cls, i))
    | _, _ => false
  | .ldc_w i => match e.2.2.2.2, e.2.2.2.1 with
    | .int v, [p] => j_w p (.constant y.cls i v)
    | .ref a, [p] => j_w p (.stringRef y.cls i (jtx.getD (a - 2000) "")) && decide (2000 ≤ a) && decide (a < 2014) && decide (jtxo.getD (a - 2000) ("", 0) = (y.cls, i))
    | _, _ => false
  | .ldc2_w i => match e.2.2.2.2, e.2.2.2.1 with
    | .long v, [p] => j_w p (.constantLong y.cls i v)
    | _, _ => false
  | .iinc _ d => decide (e.2.2.2.2 = .int (Int32.ofInt d))
  | .goto o => match e.2.2.2.1 with
    | [t] => decide ((e.1 : Int) + o = (t : Int))
    | _ => false
  | .ifCond _ o => match e.2.2.2.1 with
    | [t] => decide ((e.1 : Int) + o = (t : Int))
    | _ => false
  | .if_icmp _ o => match e.2.2.2.1 with
    | [t] => decide ((e.1 : Int) + o = (t : Int))
    | _ => false
  | .tableswitch dflt lo hi offs => match e.2.2.2.1 with
    | d :: ts => decide ((e.1 : Int) + dflt = (d : Int)) && decide (offs.toList.map (fun o => (e.1 : Int) + o) = ts.map (fun t : Nat => (t : Int))) && decide (hi = lo + (ts.length : Int) - 1) && decide (-1000 ≤ lo) && decide (hi ≤ 1000)
    | _ => false
  | .lookupswitch dflt ps => match e.2.2.2.1 with
    | d :: ts => decide ((e.1 : Int) + dflt = (d : Int)) && decide (ps.toList.map (fun o => (e.1 : Int) + o.2) = ts.map (fun t : Nat => (t : Int))) && ((ps.toList.zip (ps.toList.drop 1)).all (fun (a, next) => a.1 < next.1)) && ps.toList.all (fun q => decide (-100000 ≤ q.1) && decide (q.1 ≤ 100000))
    | _ => false
  | .getfield i => okF y.cls i e.2.2.2.1
  | .putfield i => okF y.cls i e.2.2.2.1 && (match e.2.2.2.1 with
    | ci :: k :: _ => match vwCl[ci]? with
      | some (C, T, _) => !(T k).2.2.2 || (decide (y.name = "<init>") && decide (y.cls = C))
      | none => false
    | _ => false)
  | .getstatic i => match e.2.2.2.1 with
    | [q, p, 0] => decide (q < 7) && j_w p (.fieldLink y.cls i "ShipYard" (jsn.getD q "") "[I")
    | [q, p, 1] => decide (q < 7) && j_w p (.fieldLinkNest y.cls i "ShipYard" (jsn.getD q "") "[I" "ShipYard")
    | _ => false
  | .new i => match e.2.2.2.1 with
    | [ci, n, p] => match vwCl[ci]? with
      | some (C, _, N) => decide (N = n) && j_w p (.classLink y.cls i C)
      | none => false
    | _ => false
  | .newarray a => match e.2.2.2.1 with
    | [k] => match a with
      | .int => decide (k = 100)
      | .byte => decide (k = 101)
      | .boolean => decide (k = 102)
      | .long => decide (k = 103)
      | _ => false
    | _ => false
  | .anewarray i => match e.2.2.2.1 with
    | [p] => j_w p (.classLink y.cls i "ShipYard$Person")
    | _ => false
  | .invokestatic i => match e.2.2.2.1 with
    | 0 :: k :: n :: p :: _ => decide (k < jYL.length) && j_w p (.methodLink y.cls i (jY k).1) && j_np (jY k).1 n && decide ((jpos.getD k []).getD 4 9 = 0)
    | 10 :: p :: _ => j_w p (.methodLink y.cls i Lib.Math.max.name)
    | 11 :: p :: _ => j_w p (.methodLink y.cls i Lib.Math.min.name)
    | 12 :: p :: _ => j_w p (.methodLink y.cls i Lib.MathLoose.abs_long.x)
    | 13 :: p :: _ => j_w p (.methodLink y.cls i arraycopyName)
    | _ => false
  | .invokevirtual i => match e.2.2.2.1 with
    | 1 :: k :: n :: ci :: p :: _ => match vwCl[ci]? with
      | some (C, _, _) => decide (k < jYL.length) && decide ((jY k).1.cls = C) && j_w p (.methodLink y.cls i (jY k).1) && j_np (jY k).1 n && decide ((jpos.getD k []).getD 4 9 = 1)
      | none => false
    | 20 :: p :: _ => j_w p (.methodLink y.cls i ⟨"java/lang/String", "length", "()I"⟩)
    | 21 :: p :: _ => j_w p (.methodLink y.cls i ⟨"java/lang/String", "charAt", "(I)C"⟩)
    | 22 :: p :: _ => j_w p (.methodLink y.cls i ⟨"java/lang/String", "indexOf", "(I)I"⟩)
    | _ => false
  | .invokespecial i => match e.2.2.2.1 with
    | [2, k, n, p, 0] => decide (k < jYL.length) && j_w p (.methodLink y.cls i (jY k).1) && j_np (jY k).1 n && decide ((jY k).1.name = "<init>") && decide ((jpos.getD k []).getD 4 9 = 2)
    | [2, k, n, p, 1] => decide (k < jYL.length) && j_w p (.methodLinkNest y.cls i (jY k).1 "ShipYard") && j_np (jY k).1 n && decide ((jY k).1.name = "<init>") && decide ((jpos.getD k []).getD 4 9 = 2)
    | 5 :: p :: _ => j_w p (.methodLink y.cls i Lib.objectInit)
    | _ => false
  | .ireturn => match e.2.2.2.1 with
    | [0] => decide (rt = some .int)
    | [1] => decide (rt = some .boolean)
    | _ => false
  | .lreturn => decide (rt = some .long)
  | .areturn => decide (rt = some (.array .long))
  | .return_ => decide (rt = none)
  | _ => true
/-- the length is the instruction's own; a switch's may be any -/
def okL (e : jE) : Bool := match e.2.1 with
  | .tableswitch .. => true
  | .lookupswitch .. => true
  | i => decide (e.2.2.1 = jlen i)
def okE (q : jN) (e : jE) : Bool := decide (decode q.2.1 e.1 = .ok (e.2.1, e.2.2.1)) && okL e && okX q.1 q.2.2.2 e
def okM (k : Nat) : Bool := match jpos.getD k [] with
  | [pc, pi, ps, pn, kind] => j_w pc (.code (jY k).1 (jY k).2.1 (jY k).2.2.1 (jY k).2.2.2) && j_w pn (.initialized (jY k).1.cls) && plainName (jY k).1.cls && decide ((jY k).1.cls ≠ "java/lang/invoke/MethodHandle") && decide ((jY k).1.cls ≠ "java/lang/invoke/VarHandle") && Nat.ble (jY k).2.2.1 23 && decide ((jMM k).2 = (jY k).2.2.1) && (match kind with
    | 0 => j_w pi (.static (jY k).1)
    | 1 => j_w pi (.instanceMethod (jY k).1) && j_w ps (.selects (jY k).1.cls (jY k).1 (jY k).1)
    | _ => j_w pi (.instanceMethod (jY k).1))
  | _ => false
