/-! ===== words of the table, one theorem each ===== -/
set_option maxRecDepth 100000 in
theorem gk_0 : conjG [Cond.selects (fR 3) yX3_found yX3_found, Cond.selects (fR 10) yX10_forgetNumbers yX10_forgetNumbers, Cond.selects (fR 10) yX10_forgetSlips yX10_forgetSlips, Cond.selects (fR 10) yX10_forgetTimes yX10_forgetTimes, Cond.selects (fR 10) yX10_reshape yX10_reshape, Cond.selects (fR 6) yX6_readLine yX6_readLine, Cond.selects (fR 6) yX6_ahead yX6_ahead, Cond.selects (fR 6) yX6_refuse yX6_refuse, Cond.selects (fR 6) yX6_pass yX6_pass, Cond.selects (fR 6) yX6_readTerm yX6_readTerm, Cond.selects (fR 6) yX6_isFigure yX6_isFigure, Cond.selects (fR 6) yX6_readNumber yX6_readNumber, Cond.selects (fR 6) yX6_readName yX6_readName, Cond.selects (fR 6) yX6_sideAhead yX6_sideAhead, Cond.selects (fR 10) yX10_isCell yX10_isCell, Cond.selects (fR 10) yX10_reckoned yX10_reckoned] := conj_of [0, 0, 0, 0, 0, 0, 0, 0, 0, 0, 0, 0, 0, 0, 0, 0] rfl (by decide +kernel)
set_option maxRecDepth 100000 in
theorem gk_1 : conjG [Cond.selects (fR 0) yX0_takeFirsts yX0_takeFirsts, Cond.selects (fR 0) yX0_termMade yX0_termMade, Cond.selects (fR 0) yX0_named yX0_named, Cond.selects (fR 4) yX4_markGaps yX4_markGaps, Cond.selects (fR 4) yX4_mark yX4_mark, Cond.selects (fR 4) yX4_markCell yX4_markCell, Cond.selects (fR 4) yX4_leans yX4_leans, Cond.selects (fR 4) yX4_isMarked yX4_isMarked, Cond.selects (fR 0) yX0_counted yX0_counted, Cond.selects (fR 10) yX10_reckonWithout yX10_reckonWithout, Cond.selects (fR 10) yX10_otherwiseUpTo yX10_otherwiseUpTo, Cond.selects (fR 10) yX10_otherwiseIn yX10_otherwiseIn, Cond.selects (fR 10) yX10_lastOtherwise yX10_lastOtherwise, Cond.selects (fR 1) yX1_addLack yX1_addLack, Cond.selects (fR 1) yX1_mostParts yX1_mostParts, Cond.selects (fR 1) yX1_findEvenSets yX1_findEvenSets] := conj_of [16, 0, 0, 0, 0, 0, 0, 0, 0, 0, 0, 0, 0, 0, 0, 0] rfl (by decide +kernel)
set_option maxRecDepth 100000 in
theorem gk_2 : conjG [Cond.selects (fR 1) yX1_partsOf yX1_partsOf, Cond.selects (fR 10) yX10_isCellOrAll yX10_isCellOrAll, Cond.selects (fR 9) yX9_work yX9_work, Cond.selects (fR 9) yX9_notesCome yX9_notesCome, Cond.selects (fR 9) yX9_addLoads yX9_addLoads, Cond.selects (fR 9) yX9_isTooSlow yX9_isTooSlow, Cond.selects (fR 8) yX8_take yX8_take, Cond.selects (fR 10) yX10_reckonSmall yX10_reckonSmall, Cond.selects (fR 10) yX10_meanOfFour yX10_meanOfFour, Cond.selects (fR 10) yX10_isOff yX10_isOff, Cond.selects (fR 11) yX11_begins yX11_begins, Cond.selects (fR 11) yX11_clears yX11_clears, Cond.selects (fR 11) yX11_cells yX11_cells, Cond.selects (fR 11) yX11_faultOf yX11_faultOf, Cond.selects (fR 11) yX11_readLine yX11_readLine, Cond.selects (fR 11) yX11_byteAt yX11_byteAt] := conj_of [32, 0, 0, 0, 0, 0, 0, 0, 0, 0, 0, 0, 0, 0, 0, 0] rfl (by decide +kernel)
set_option maxRecDepth 100000 in
theorem gk_3 : conjG [Cond.selects (fR 11) yX11_fails yX11_fails, Cond.selects (fR 11) yX11_term yX11_term, Cond.selects (fR 11) yX11_number yX11_number, Cond.selects (fR 11) yX11_name yX11_name, Cond.selects (fR 11) yX11_hasProduct yX11_hasProduct, Cond.selects (fR 11) yX11_isCell yX11_isCell, Cond.selects (fR 11) yX11_isPlace yX11_isPlace, Cond.selects (fR 11) yX11_all yX11_all, Cond.selects (fR 11) yX11_hall yX11_hall, Cond.selects (fR 11) yX11_filled yX11_filled, Cond.selects (fR 11) yX11_next yX11_next, Cond.selects (fR 11) yX11_steps yX11_steps, Cond.selects (fR 11) yX11_made yX11_made, Cond.selects (fR 11) yX11_named yX11_named, Cond.selects (fR 11) yX11_slipped yX11_slipped, Cond.selects (fR 11) yX11_madeMarked yX11_madeMarked] := conj_of [48, 0, 0, 0, 0, 0, 0, 0, 0, 0, 0, 0, 0, 0, 0, 0] rfl (by decide +kernel)
set_option maxRecDepth 100000 in
theorem gk_4 : conjG [Cond.selects (fR 11) yX11_namedMarked yX11_namedMarked, Cond.selects (fR 11) yX11_tells yX11_tells, Cond.selects (fR 11) yX11_isEven yX11_isEven, Cond.selects (fR 11) yX11_ownEnds yX11_ownEnds, Cond.selects (fR 11) yX11_ends yX11_ends, Cond.selects (fR 11) yX11_lastOf yX11_lastOf, Cond.selects (fR 11) yX11_gives yX11_gives, Cond.selects (fR 11) yX11_moveAll yX11_moveAll, Cond.selects (fR 11) yX11_moves yX11_moves, Cond.selects (fR 11) yX11_slot yX11_slot, Cond.initialized yX10_isLetter.cls, Cond.initialized yX3_beside.cls, Cond.initialized yJ9_min_7cf53.cls, Cond.initialized yX6_readLine.cls, Cond.initialized yX5_end.cls, Cond.initialized yX7_slipped.cls] := conj_of [64, 0, 0, 0, 0, 0, 0, 0, 0, 0, 1, 0, 0, 0, 0, 0] rfl (by decide +kernel)
set_option maxRecDepth 100000 in
theorem gk_5 : conjG [Cond.initialized yX0_takeFirsts.cls, Cond.initialized yX4_markGaps.cls, Cond.initialized yX1_clearTold.cls, Cond.initialized yX2_paceOf.cls, Cond.initialized yX9_init.cls, Cond.initialized yX8_take.cls, Cond.initialized yX11_begins.cls, Cond.initialized yJ6_numberOfTrailingZeros_0f7a4.cls, Cond.methodLink RX10 9 yX3_init, Cond.instanceMethod yX3_init, Cond.code yX3_init cX3_init 3 none, Cond.methodLink RX3 15 yX3_shape, Cond.instanceMethod yX3_shape, Cond.selects (fR 3) yX3_shape yX3_shape, Cond.code yX3_shape cX3_shape 7 none, Cond.methodLink RX3 19 yJ9_min_7cf53] := conj_of [81, 0, 0, 0, 0, 0, 0, 0, 10, 0, 0, 1, 0, 0, 0, 0] rfl (by decide +kernel)
set_option maxRecDepth 100000 in
theorem gk_6 : conjG [Cond.static yJ9_min_7cf53, Cond.code yJ9_min_7cf53 prog_15_method_69_code 2 (some .int), Cond.methodLink RX3 25 yJ9_max_7cf53, Cond.static yJ9_max_7cf53, Cond.code yJ9_max_7cf53 prog_15_method_65_code 2 (some .int), Cond.methodLink RX3 38 yX3_found, Cond.instanceMethod yX3_found, Cond.code yX3_found cX3_found 7 (some .int), Cond.instanceMethod yX6_init, Cond.code yX6_init cX6_init 1 none, Cond.methodLink RX6 17 yX5_init, Cond.instanceMethod yX5_init, Cond.code yX5_init cX5_init 1 none, Cond.methodLink RX5 40 yX5_clear, Cond.instanceMethod yX5_clear, Cond.selects (fR 5) yX5_clear yX5_clear] := conj_of [108, 0, 0, 0, 0, 0, 1, 0, 28, 0, 3, 0, 0, 1, 0, 0] rfl (by decide +kernel)
set_option maxRecDepth 100000 in
theorem gk_7 : conjG [Cond.code yX5_clear cX5_clear 2 none, Cond.methodLink RX10 30 yX7_init, Cond.instanceMethod yX7_init, Cond.code yX7_init cX7_init 1 none, Cond.methodLink RX7 11 yX5_init, Cond.methodLink RX7 37 yX7_clearFirsts, Cond.instanceMethod yX7_clearFirsts, Cond.selects (fR 7) yX7_clearFirsts yX7_clearFirsts, Cond.code yX7_clearFirsts cX7_clearFirsts 2 none, Cond.methodLink RX10 41 yX0_init, Cond.instanceMethod yX0_init, Cond.code yX0_init cX0_init 3 none, Cond.methodLink RX0 18 yJ9_min_7cf53, Cond.methodLink RX0 24 yJ9_max_7cf53, Cond.instanceMethod yX4_init, Cond.code yX4_init cX4_init 1 none] := conj_of [157, 79, 0, 0, 2, 0, 0, 0, 0, 40, 0, 0, 1, 0, 21, 0] rfl (by decide +kernel)
set_option maxRecDepth 100000 in
theorem gk_8 : conjG [Cond.methodLink RX10 66 yX1_init, Cond.instanceMethod yX1_init, Cond.code yX1_init cX1_init 1 none, Cond.methodLink RX1 28 yX1_clearTold, Cond.instanceMethod yX1_clearTold, Cond.selects (fR 1) yX1_clearTold yX1_clearTold, Cond.code yX1_clearTold cX1_clearTold 2 none, Cond.methodLink RX10 73 yX2_init, Cond.instanceMethod yX2_init, Cond.code yX2_init cX2_init 2 none, Cond.instanceMethod yX9_init, Cond.code yX9_init cX9_init 1 none, Cond.instanceMethod yX8_init, Cond.code yX8_init cX8_init 1 none, Cond.methodLink RX10 96 yX3_shape, Cond.methodLink RX10 100 yX7_clearFirsts] := conj_of [326, 0, 0, 1, 0, 0, 0, 28, 0, 0, 14, 0, 22, 0, 71, 0] rfl (by decide +kernel)
set_option maxRecDepth 100000 in
theorem gk_9 : conjG [Cond.methodLink RX10 109 yX1_clearTold, Cond.methodLink RX10 112 yX9_giveAllToFirst, Cond.instanceMethod yX9_giveAllToFirst, Cond.selects (fR 9) yX9_giveAllToFirst yX9_giveAllToFirst, Cond.code yX9_giveAllToFirst cX9_giveAllToFirst 2 none, Cond.methodLink RX9 28 yX9_restart, Cond.instanceMethod yX9_restart, Cond.selects (fR 9) yX9_restart yX9_restart, Cond.code yX9_restart cX9_restart 2 none, Cond.methodLink RX10 115 yX10_forgetNumbers, Cond.instanceMethod yX10_forgetNumbers, Cond.code yX10_forgetNumbers cX10_forgetNumbers 1 none, Cond.methodLink RX10 338 yX0_restart, Cond.instanceMethod yX0_restart, Cond.selects (fR 0) yX0_restart yX0_restart, Cond.code yX0_restart cX0_restart 1 none] := conj_of [478, 0, 0, 0, 0, 0, 0, 0, 0, 0, 1, 0, 0, 0, 0, 0] rfl (by decide +kernel)
set_option maxRecDepth 100000 in
theorem gk_10 : conjG [Cond.methodLink RX10 339 yX4_restart, Cond.instanceMethod yX4_restart, Cond.selects (fR 4) yX4_restart yX4_restart, Cond.code yX4_restart cX4_restart 1 none, Cond.methodLink RX10 226 yX10_forgetSlips, Cond.instanceMethod yX10_forgetSlips, Cond.code yX10_forgetSlips cX10_forgetSlips 1 none, Cond.methodLink RX10 118 yX10_forgetTimes, Cond.instanceMethod yX10_forgetTimes, Cond.code yX10_forgetTimes cX10_forgetTimes 1 none, Cond.methodLink RX10 296 yX9_restart, Cond.methodLink RX10 340 yX8_restart, Cond.instanceMethod yX8_restart, Cond.selects (fR 8) yX8_restart yX8_restart, Cond.code yX8_restart cX8_restart 1 none, Cond.methodLink RX10 124 yX10_reshape] := conj_of [495, 0, 0, 0, 0, 1, 0, 0, 1, 0, 0, 0, 0, 0, 0, 4] rfl (by decide +kernel)
set_option maxRecDepth 100000 in
theorem gk_11 : conjG [Cond.instanceMethod yX10_reshape, Cond.code yX10_reshape cX10_reshape 1 none, Cond.methodLink RX10 130 yX10_isLetter, Cond.static yX10_isLetter, Cond.code yX10_isLetter cX10_isLetter 1 (some .boolean), Cond.methodLink RX10 134 yX10_isTold, Cond.static yX10_isTold, Cond.code yX10_isTold cX10_isTold 1 (some .boolean), Cond.methodLink RX10 145 yX6_append, Cond.instanceMethod yX6_append, Cond.selects (fR 6) yX6_append yX6_append, Cond.code yX6_append cX6_append 2 none, Cond.methodLink RX10 149 yX6_read, Cond.instanceMethod yX6_read, Cond.selects (fR 6) yX6_read yX6_read, Cond.code yX6_read cX6_read 2 (some .int)] := conj_of [518, 0, 4, 0, 0, 0, 0, 0, 7, 0, 0, 0, 8, 0, 0, 0] rfl (by decide +kernel)
set_option maxRecDepth 100000 in
theorem gk_12 : conjG [Cond.methodLink RX6 26 yX5_clear, Cond.methodLink RX6 32 yX6_readLine, Cond.instanceMethod yX6_readLine, Cond.code yX6_readLine cX6_readLine 3 (some .boolean), Cond.methodLink RX6 39 yX6_ahead, Cond.instanceMethod yX6_ahead, Cond.code yX6_ahead cX6_ahead 1 (some .int), Cond.methodLink RX6 50 yX6_refuse, Cond.instanceMethod yX6_refuse, Cond.code yX6_refuse cX6_refuse 2 (some .boolean), Cond.methodLink RX6 53 yX6_pass, Cond.instanceMethod yX6_pass, Cond.code yX6_pass cX6_pass 2 (some .boolean), Cond.methodLink RX6 62 yX6_readTerm, Cond.instanceMethod yX6_readTerm, Cond.code yX6_readTerm cX6_readTerm 5 (some .boolean)] := conj_of [553, 0, 1, 0, 0, 1, 0, 1, 1, 0, 0, 1, 0, 0, 1, 0] rfl (by decide +kernel)
set_option maxRecDepth 100000 in
theorem gk_13 : conjG [Cond.methodLink RX6 82 yX6_isFigure, Cond.instanceMethod yX6_isFigure, Cond.code yX6_isFigure cX6_isFigure 1 (some .boolean), Cond.methodLink RX6 65 yX6_readNumber, Cond.instanceMethod yX6_readNumber, Cond.code yX6_readNumber cX6_readNumber 5 (some .boolean), Cond.methodLink RX6 92 yJ9_min_7cf53, Cond.methodLink RX6 85 yX6_readName, Cond.instanceMethod yX6_readName, Cond.code yX6_readName cX6_readName 4 (some .boolean), Cond.methodLink RX6 98 yX6_sideAhead, Cond.instanceMethod yX6_sideAhead, Cond.code yX6_sideAhead cX6_sideAhead 1 (some .int), Cond.methodLink RX6 88 yX5_addTerm, Cond.instanceMethod yX5_addTerm, Cond.selects (fR 5) yX5_addTerm yX5_addTerm] := conj_of [575, 1, 0, 0, 1, 0, 0, 0, 1, 0, 0, 1, 0, 0, 0, 0] rfl (by decide +kernel)
set_option maxRecDepth 100000 in
theorem gk_14 : conjG [Cond.code yX5_addTerm cX5_addTerm 4 none, Cond.methodLink RX6 78 yX5_closeLine, Cond.instanceMethod yX5_closeLine, Cond.selects (fR 5) yX5_closeLine yX5_closeLine, Cond.code yX5_closeLine cX5_closeLine 4 none, Cond.methodLink RX10 158 yX5_takeAll, Cond.instanceMethod yX5_takeAll, Cond.selects (fR 5) yX5_takeAll yX5_takeAll, Cond.code yX5_takeAll cX5_takeAll 3 none, Cond.methodLink RX10 180 yX5_hasProduct, Cond.instanceMethod yX5_hasProduct, Cond.selects (fR 5) yX5_hasProduct yX5_hasProduct, Cond.code yX5_hasProduct cX5_hasProduct 3 (some .boolean), Cond.methodLink RX5 56 yX5_end, Cond.instanceMethod yX5_end, Cond.selects (fR 5) yX5_end yX5_end] := conj_of [595, 0, 0, 0, 0, 4, 0, 0, 0, 4, 0, 0, 0, 0, 0, 0] rfl (by decide +kernel)
set_option maxRecDepth 100000 in
theorem gk_15 : conjG [Cond.code yX5_end cX5_end 2 (some .int), Cond.methodLink RX5 50 yJ9_min_7cf53, Cond.methodLink RX10 183 yX10_isCell, Cond.instanceMethod yX10_isCell, Cond.code yX10_isCell cX10_isCell 2 (some .boolean), Cond.methodLink RX10 190 yX10_isStep, Cond.static yX10_isStep, Cond.code yX10_isStep cX10_isStep 1 (some .boolean), Cond.methodLink RX10 194 yX10_reckoned, Cond.instanceMethod yX10_reckoned, Cond.code yX10_reckoned cX10_reckoned 4 (some (.object "ForecastHall$Board")), Cond.methodLink RX10 341 yX0_reach, Cond.instanceMethod yX0_reach, Cond.selects (fR 0) yX0_reach yX0_reach, Cond.code yX0_reach cX0_reach 9 none, Cond.methodLink RX0 39 yX0_takeFirsts] := conj_of [619, 0, 4, 1, 0, 5, 0, 0, 1, 1, 0, 0, 0, 0, 0, 0] rfl (by decide +kernel)
set_option maxRecDepth 100000 in
theorem gk_16 : conjG [Cond.instanceMethod yX0_takeFirsts, Cond.code yX0_takeFirsts cX0_takeFirsts 6 none, Cond.methodLink RX0 71 yX7_isGap, Cond.instanceMethod yX7_isGap, Cond.selects (fR 7) yX7_isGap yX7_isGap, Cond.code yX7_isGap cX7_isGap 3 (some .boolean), Cond.methodLink RX7 55 yX7_firstAt, Cond.instanceMethod yX7_firstAt, Cond.selects (fR 7) yX7_firstAt yX7_firstAt, Cond.code yX7_firstAt cX7_firstAt 4 (some .int), Cond.methodLink RX0 75 yX7_filled, Cond.instanceMethod yX7_filled, Cond.selects (fR 7) yX7_filled yX7_filled, Cond.code yX7_filled cX7_filled 9 (some .int), Cond.methodLink RX7 59 yX3_beside, Cond.instanceMethod yX3_beside] := conj_of [648, 0, 0, 0, 0, 0, 0, 0, 0, 0, 0, 0, 0, 0, 0, 0] rfl (by decide +kernel)
set_option maxRecDepth 100000 in
theorem gk_17 : conjG [Cond.selects (fR 3) yX3_beside yX3_beside, Cond.code yX3_beside cX3_beside 4 (some .int), Cond.methodLink RX7 64 yJ9_floorDiv_7cf53, Cond.static yJ9_floorDiv_7cf53, Cond.code yJ9_floorDiv_7cf53 prog_15_method_47_code 3 (some .int), Cond.methodLink RX0 79 yX7_firstAt, Cond.methodLink RX0 67 yX0_set, Cond.instanceMethod yX0_set, Cond.selects (fR 0) yX0_set yX0_set, Cond.code yX0_set cX0_set 6 none, Cond.methodLink RX0 59 yX0_made, Cond.instanceMethod yX0_made, Cond.selects (fR 0) yX0_made yX0_made, Cond.code yX0_made cX0_made 13 (some .int), Cond.methodLink RX0 85 yX0_number, Cond.instanceMethod yX0_number] := conj_of [664, 0, 0, 0, 0, 0, 0, 0, 0, 0, 0, 0, 0, 0, 0, 0] rfl (by decide +kernel)
set_option maxRecDepth 100000 in
theorem gk_18 : conjG [Cond.selects (fR 0) yX0_number yX0_number, Cond.code yX0_number cX0_number 5 (some .int), Cond.methodLink RX0 89 yX5_end, Cond.methodLink RX0 96 yX0_termMade, Cond.instanceMethod yX0_termMade, Cond.code yX0_termMade cX0_termMade 11 (some .long), Cond.methodLink RX0 109 yX0_named, Cond.instanceMethod yX0_named, Cond.code yX0_named cX0_named 8 (some .int), Cond.methodLink RX0 126 yX5_letterOf, Cond.static yX5_letterOf, Cond.code yX5_letterOf cX5_letterOf 1 (some .int), Cond.methodLink RX0 129 yX5_sideOf, Cond.static yX5_sideOf, Cond.code yX5_sideOf cX5_sideOf 1 (some .int), Cond.methodLink RX0 132 yX3_beside] := conj_of [680, 0, 1, 0, 1, 0, 0, 1, 0, 0, 0, 0, 0, 0, 0, 0] rfl (by decide +kernel)
set_option maxRecDepth 100000 in
theorem gk_19 : conjG [Cond.methodLink RX0 138 yX5_isNow, Cond.static yX5_isNow, Cond.code yX5_isNow cX5_isNow 1 (some .boolean), Cond.methodLink RX0 117 yJ9_abs_067f4, Cond.static yJ9_abs_067f4, Cond.code yJ9_abs_067f4 prog_15_method_61_code 2 (some .long), Cond.methodLink RX0 102 yX5_divided, Cond.instanceMethod yX5_divided, Cond.selects (fR 5) yX5_divided yX5_divided, Cond.code yX5_divided cX5_divided 8 (some .int), Cond.methodLink RX5 80 yJ9_floorDiv_f86c9, Cond.static yJ9_floorDiv_f86c9, Cond.code yJ9_floorDiv_f86c9 prog_15_method_49_code 6 (some .long), Cond.methodLink RX0 63 yX7_slipped, Cond.instanceMethod yX7_slipped, Cond.selects (fR 7) yX7_slipped yX7_slipped] := conj_of [699, 0, 0, 2, 0, 0, 1, 0, 0, 0, 4, 0, 0, 2, 0, 0] rfl (by decide +kernel)
set_option maxRecDepth 100000 in
theorem gk_20 : conjG [Cond.code yX7_slipped cX7_slipped 8 (some .int), Cond.methodLink RX10 198 yX0_number, Cond.methodLink RX10 202 yX4_reach, Cond.instanceMethod yX4_reach, Cond.selects (fR 4) yX4_reach yX4_reach, Cond.code yX4_reach cX4_reach 7 none, Cond.methodLink RX4 24 yX4_markGaps, Cond.instanceMethod yX4_markGaps, Cond.code yX4_markGaps cX4_markGaps 4 none, Cond.methodLink RX4 32 yX7_isGap, Cond.methodLink RX4 38 yX4_mark, Cond.instanceMethod yX4_mark, Cond.code yX4_mark cX4_mark 5 none, Cond.methodLink RX4 28 yX4_markCell, Cond.instanceMethod yX4_markCell, Cond.code yX4_markCell cX4_markCell 7 none] := conj_of [724, 3, 4, 0, 0, 0, 0, 1, 0, 0, 0, 1, 0, 0, 1, 0] rfl (by decide +kernel)
set_option maxRecDepth 100000 in
theorem gk_21 : conjG [Cond.methodLink RX4 51 yX4_leans, Cond.instanceMethod yX4_leans, Cond.code yX4_leans cX4_leans 7 (some .boolean), Cond.methodLink RX4 58 yX4_has, Cond.instanceMethod yX4_has, Cond.selects (fR 4) yX4_has yX4_has, Cond.code yX4_has cX4_has 5 (some .boolean), Cond.methodLink RX4 65 yX5_end, Cond.methodLink RX4 72 yX4_isMarked, Cond.instanceMethod yX4_isMarked, Cond.code yX4_isMarked cX4_isMarked 6 (some .boolean), Cond.methodLink RX4 79 yX5_sideOf, Cond.methodLink RX4 82 yX3_beside, Cond.methodLink RX4 86 yX5_isNow, Cond.methodLink RX4 90 yX5_letterOf, Cond.methodLink RX10 206 yX4_has] := conj_of [750, 1, 0, 0, 0, 0, 0, 0, 0, 1, 0, 0, 0, 0, 0, 0] rfl (by decide +kernel)
set_option maxRecDepth 100000 in
theorem gk_22 : conjG [Cond.methodLink RX10 215 yX0_rowSum, Cond.instanceMethod yX0_rowSum, Cond.selects (fR 0) yX0_rowSum yX0_rowSum, Cond.code yX0_rowSum cX0_rowSum 8 (some .long), Cond.methodLink RX0 145 yX0_counted, Cond.instanceMethod yX0_counted, Cond.code yX0_counted cX0_counted 5 (some .int), Cond.methodLink RX10 219 yX10_isLaterStep, Cond.static yX10_isLaterStep, Cond.code yX10_isLaterStep cX10_isLaterStep 1 (some .boolean), Cond.methodLink RX10 222 yX7_addSlip, Cond.instanceMethod yX7_addSlip, Cond.selects (fR 7) yX7_addSlip yX7_addSlip, Cond.code yX7_addSlip cX7_addSlip 5 none, Cond.methodLink RX10 229 yX10_reckonWithout, Cond.instanceMethod yX10_reckonWithout] := conj_of [773, 0, 0, 0, 0, 1, 0, 4, 0, 0, 0, 0, 0, 0, 8, 1] rfl (by decide +kernel)
set_option maxRecDepth 100000 in
theorem gk_23 : conjG [Cond.code yX10_reckonWithout cX10_reckonWithout 3 none, Cond.methodLink RX10 232 yX10_otherwiseUpTo, Cond.instanceMethod yX10_otherwiseUpTo, Cond.code yX10_otherwiseUpTo cX10_otherwiseUpTo 4 (some .int), Cond.methodLink RX10 239 yX10_otherwiseIn, Cond.instanceMethod yX10_otherwiseIn, Cond.code yX10_otherwiseIn cX10_otherwiseIn 5 (some .int), Cond.methodLink RX10 236 yX10_lastOtherwise, Cond.instanceMethod yX10_lastOtherwise, Cond.code yX10_lastOtherwise cX10_lastOtherwise 3 (some .int), Cond.methodLink RX10 242 yX5_keepsSum, Cond.instanceMethod yX5_keepsSum, Cond.selects (fR 5) yX5_keepsSum yX5_keepsSum, Cond.code yX5_keepsSum cX5_keepsSum 4 (some .boolean), Cond.methodLink RX5 60 yX5_letterOf, Cond.methodLink RX5 63 yX5_isNow] := conj_of [803, 0, 1, 0, 0, 1, 0, 0, 1, 0, 4, 0, 0, 0, 0, 0] rfl (by decide +kernel)
set_option maxRecDepth 100000 in
theorem gk_24 : conjG [Cond.methodLink RX5 67 yX5_hasProduct, Cond.methodLink RX10 245 yX5_staysSmall, Cond.instanceMethod yX5_staysSmall, Cond.selects (fR 5) yX5_staysSmall yX5_staysSmall, Cond.code yX5_staysSmall cX5_staysSmall 4 (some .boolean), Cond.methodLink RX5 70 yJ9_abs_0f7a4, Cond.static yJ9_abs_0f7a4, Cond.code yJ9_abs_0f7a4 prog_15_method_59_code 1 (some .int), Cond.methodLink RX10 257 yX1_keepSum, Cond.instanceMethod yX1_keepSum, Cond.selects (fR 1) yX1_keepSum yX1_keepSum, Cond.code yX1_keepSum cX1_keepSum 7 none, Cond.methodLink RX10 261 yX1_toldSums, Cond.instanceMethod yX1_toldSums, Cond.selects (fR 1) yX1_toldSums yX1_toldSums, Cond.code yX1_toldSums cX1_toldSums 3 (some .int)] := conj_of [826, 4, 0, 0, 0, 0, 0, 0, 7, 0, 0, 0, 4, 0, 0, 0] rfl (by decide +kernel)
set_option maxRecDepth 100000 in
theorem gk_25 : conjG [Cond.methodLink RX10 267 yX1_failing, Cond.instanceMethod yX1_failing, Cond.selects (fR 1) yX1_failing yX1_failing, Cond.code yX1_failing cX1_failing 5 (some .int), Cond.methodLink RX1 45 yX0_rowSum, Cond.methodLink RX1 54 yX0_columnSum, Cond.instanceMethod yX0_columnSum, Cond.selects (fR 0) yX0_columnSum yX0_columnSum, Cond.code yX0_columnSum cX0_columnSum 8 (some .long), Cond.methodLink RX10 271 yX1_agree, Cond.instanceMethod yX1_agree, Cond.selects (fR 1) yX1_agree yX1_agree, Cond.code yX1_agree cX1_agree 4 (some .boolean), Cond.methodLink RX10 275 yX1_fewestCells, Cond.instanceMethod yX1_fewestCells, Cond.selects (fR 1) yX1_fewestCells yX1_fewestCells] := conj_of [857, 0, 0, 0, 0, 0, 0, 0, 0, 4, 0, 0, 0, 0, 0, 0] rfl (by decide +kernel)
set_option maxRecDepth 100000 in
theorem gk_26 : conjG [Cond.code yX1_fewestCells cX1_fewestCells 6 (some .int), Cond.methodLink RX1 57 yX1_addLack, Cond.instanceMethod yX1_addLack, Cond.code yX1_addLack cX1_addLack 4 (some .int), Cond.methodLink RX1 61 yX1_mostParts, Cond.instanceMethod yX1_mostParts, Cond.code yX1_mostParts cX1_mostParts 5 (some .int), Cond.methodLink RX1 65 yX1_findEvenSets, Cond.instanceMethod yX1_findEvenSets, Cond.code yX1_findEvenSets cX1_findEvenSets 7 none, Cond.methodLink RX1 77 yJ6_numberOfTrailingZeros_0f7a4, Cond.static yJ6_numberOfTrailingZeros_0f7a4, Cond.code yJ6_numberOfTrailingZeros_0f7a4 prog_14_method_48_code 2 (some .int), Cond.methodLink RX1 69 yX1_partsOf, Cond.instanceMethod yX1_partsOf, Cond.code yX1_partsOf cX1_partsOf 7 (some .int)] := conj_of [877, 0, 1, 0, 0, 1, 0, 0, 1, 0, 0, 0, 0, 1, 1, 0] rfl (by decide +kernel)
set_option maxRecDepth 100000 in
theorem gk_27 : conjG [Cond.methodLink RX1 72 yJ9_max_7cf53, Cond.methodLink RX10 278 yX0_made, Cond.methodLink RX10 287 yX10_isPerson, Cond.static yX10_isPerson, Cond.code yX10_isPerson cX10_isPerson 1 (some .boolean), Cond.methodLink RX10 299 yX10_isCellOrAll, Cond.instanceMethod yX10_isCellOrAll, Cond.code yX10_isCellOrAll cX10_isCellOrAll 2 (some .boolean), Cond.methodLink RX10 302 yX9_reach, Cond.instanceMethod yX9_reach, Cond.selects (fR 9) yX9_reach yX9_reach, Cond.code yX9_reach cX9_reach 5 none, Cond.methodLink RX9 31 yX9_work, Cond.instanceMethod yX9_work, Cond.code yX9_work cX9_work 8 none, Cond.methodLink RX9 40 yX9_notesCome] := conj_of [898, 4, 14, 0, 0, 8, 1, 0, 0, 0, 0, 0, 0, 1, 0, 0] rfl (by decide +kernel)
set_option maxRecDepth 100000 in
theorem gk_28 : conjG [Cond.instanceMethod yX9_notesCome, Cond.code yX9_notesCome cX9_notesCome 9 (some .int), Cond.methodLink RX9 56 yX3_beside, Cond.methodLink RX9 62 yX9_ended, Cond.instanceMethod yX9_ended, Cond.selects (fR 9) yX9_ended yX9_ended, Cond.code yX9_ended cX9_ended 4 (some .int), Cond.methodLink RX9 44 yJ9_max_7cf53, Cond.methodLink RX9 50 yX2_paceOf, Cond.instanceMethod yX2_paceOf, Cond.selects (fR 2) yX2_paceOf yX2_paceOf, Cond.code yX2_paceOf cX2_paceOf 2 (some .int), Cond.methodLink RX10 305 yX9_lastMinute, Cond.instanceMethod yX9_lastMinute, Cond.selects (fR 9) yX9_lastMinute yX9_lastMinute, Cond.code yX9_lastMinute cX9_lastMinute 5 (some .int)] := conj_of [943, 0, 0, 0, 0, 0, 0, 0, 0, 0, 0, 0, 0, 0, 0, 0] rfl (by decide +kernel)
set_option maxRecDepth 100000 in
theorem gk_29 : conjG [Cond.methodLink RX10 309 yX9_ended, Cond.methodLink RX10 313 yX8_find, Cond.instanceMethod yX8_find, Cond.selects (fR 8) yX8_find yX8_find, Cond.code yX8_find cX8_find 7 none, Cond.methodLink RX8 38 yX9_deal, Cond.instanceMethod yX9_deal, Cond.selects (fR 9) yX9_deal yX9_deal, Cond.code yX9_deal cX9_deal 6 none, Cond.methodLink RX9 65 yJ9_min_7cf53, Cond.methodLink RX8 42 yX9_endsAhead, Cond.instanceMethod yX9_endsAhead, Cond.selects (fR 9) yX9_endsAhead yX9_endsAhead, Cond.code yX9_endsAhead cX9_endsAhead 6 (some .boolean), Cond.methodLink RX9 68 yX9_addLoads, Cond.instanceMethod yX9_addLoads] := conj_of [959, 8, 0, 0, 0, 1, 0, 0, 0, 0, 0, 0, 0, 0, 0, 1] rfl (by decide +kernel)
set_option maxRecDepth 100000 in
theorem gk_30 : conjG [Cond.code yX9_addLoads cX9_addLoads 5 none, Cond.methodLink RX9 72 yX9_isTooSlow, Cond.instanceMethod yX9_isTooSlow, Cond.code yX9_isTooSlow cX9_isTooSlow 4 (some .boolean), Cond.methodLink RX9 76 yX9_reach, Cond.methodLink RX9 79 yX9_lastMinute, Cond.methodLink RX8 46 yX8_take, Cond.instanceMethod yX8_take, Cond.code yX8_take cX8_take 3 none, Cond.methodLink RX8 50 yX9_lastMinute, Cond.methodLink RX10 323 yX10_reckonSmall, Cond.instanceMethod yX10_reckonSmall, Cond.code yX10_reckonSmall cX10_reckonSmall 4 none, Cond.methodLink RX10 348 yX10_meanOfFour, Cond.instanceMethod yX10_meanOfFour, Cond.code yX10_meanOfFour cX10_meanOfFour 11 (some .int)] := conj_of [985, 0, 1, 0, 0, 0, 0, 1, 0, 0, 9, 1, 0, 0, 1, 0] rfl (by decide +kernel)
set_option maxRecDepth 100000 in
theorem gk_31 : conjG [Cond.methodLink RX10 357 yJ9_floorDiv_f86c9, Cond.methodLink RX10 351 yX0_set, Cond.methodLink RX10 326 yX10_isOff, Cond.instanceMethod yX10_isOff, Cond.code yX10_isOff cX10_isOff 7 (some .boolean), Cond.methodLink RX10 363 yJ9_abs_067f4, Cond.methodLink RX10 330 yX7_copyFrom, Cond.instanceMethod yX7_copyFrom, Cond.selects (fR 7) yX7_copyFrom yX7_copyFrom, Cond.code yX7_copyFrom cX7_copyFrom 3 none, Cond.methodLink RX7 41 yX5_takeAll, Cond.methodLink RX10 334 yX7_gaps, Cond.instanceMethod yX7_gaps, Cond.selects (fR 7) yX7_gaps yX7_gaps, Cond.code yX7_gaps cX7_gaps 4 (some .int), Cond.methodLink RX11 112 yX11_begins] := conj_of [1016, 0, 0, 1, 0, 0, 4, 0, 0, 0, 0, 8, 0, 0, 0, 6] rfl (by decide +kernel)
set_option maxRecDepth 100000 in
theorem gk_32 : conjG [Cond.instanceMethod yX11_begins, Cond.code yX11_begins cX11_begins 2 none, Cond.methodLink RX11 119 yX11_clears, Cond.instanceMethod yX11_clears, Cond.code yX11_clears cX11_clears 2 none, Cond.methodLink RX11 128 yX11_in, Cond.static yX11_in, Cond.code yX11_in cX11_in 6 (some .boolean), Cond.methodLink RX11 124 yX11_cells, Cond.instanceMethod yX11_cells, Cond.code yX11_cells cX11_cells 1 (some .int), Cond.methodLink RX11 146 yX11_isLetter, Cond.static yX11_isLetter, Cond.code yX11_isLetter cX11_isLetter 1 (some .boolean), Cond.methodLink RX11 200 yX11_faultOf, Cond.instanceMethod yX11_faultOf] := conj_of [1052, 0, 1, 1, 0, 146, 0, 0, 0, 1, 0, 9, 0, 0, 18, 1] rfl (by decide +kernel)
set_option maxRecDepth 100000 in
theorem gk_33 : conjG [Cond.code yX11_faultOf cX11_faultOf 2 (some .int), Cond.methodLink RX11 197 yX11_readLine, Cond.instanceMethod yX11_readLine, Cond.code yX11_readLine cX11_readLine 6 none, Cond.methodLink RX11 168 yX11_byteAt, Cond.instanceMethod yX11_byteAt, Cond.code yX11_byteAt cX11_byteAt 2 (some .int), Cond.methodLink RX11 177 yX11_fails, Cond.instanceMethod yX11_fails, Cond.code yX11_fails cX11_fails 2 none, Cond.methodLink RX11 193 yX11_term, Cond.instanceMethod yX11_term, Cond.code yX11_term cX11_term 4 none, Cond.methodLink RX11 184 yX11_number, Cond.instanceMethod yX11_number, Cond.code yX11_number cX11_number 4 (some .int)] := conj_of [1245, 0, 1, 0, 0, 1, 0, 0, 1, 0, 0, 1, 0, 0, 1, 0] rfl (by decide +kernel)
set_option maxRecDepth 100000 in
theorem gk_34 : conjG [Cond.methodLink RX11 190 yX11_name, Cond.instanceMethod yX11_name, Cond.code yX11_name cX11_name 7 (some .int), Cond.methodLink RX11 208 yX11_hasProduct, Cond.instanceMethod yX11_hasProduct, Cond.code yX11_hasProduct cX11_hasProduct 4 (some .boolean), Cond.methodLink RX11 269 yX11_isCell, Cond.instanceMethod yX11_isCell, Cond.code yX11_isCell cX11_isCell 2 (some .boolean), Cond.methodLink RX11 274 yX11_isPlace, Cond.instanceMethod yX11_isPlace, Cond.code yX11_isPlace cX11_isPlace 4 (some .boolean), Cond.methodLink RX11 278 yX11_all, Cond.instanceMethod yX11_all, Cond.code yX11_all cX11_all 1 (some .int), Cond.methodLink RX11 281 yX11_hall] := conj_of [1269, 1, 0, 9, 1, 0, 4, 1, 0, 4, 1, 0, 2, 1, 0, 0] rfl (by decide +kernel)
set_option maxRecDepth 100000 in
theorem gk_35 : conjG [Cond.instanceMethod yX11_hall, Cond.code yX11_hall cX11_hall 5 none, Cond.methodLink RX11 217 yX11_place, Cond.static yX11_place, Cond.code yX11_place cX11_place 3 (some .int), Cond.methodLink RX11 262 yX11_filled, Cond.instanceMethod yX11_filled, Cond.code yX11_filled cX11_filled 10 (some .int), Cond.methodLink RX11 221 yX11_next, Cond.instanceMethod yX11_next, Cond.code yX11_next cX11_next 5 (some .int), Cond.methodLink RX11 258 yX11_down, Cond.static yX11_down, Cond.code yX11_down cX11_down 4 (some .int), Cond.methodLink RX11 265 yX11_steps, Cond.instanceMethod yX11_steps] := conj_of [1310, 0, 0, 0, 0, 0, 1, 0, 0, 1, 0, 0, 0, 0, 0, 1] rfl (by decide +kernel)
set_option maxRecDepth 100000 in
theorem gk_36 : conjG [Cond.code yX11_steps cX11_steps 8 none, Cond.methodLink RX11 248 yX11_made, Cond.instanceMethod yX11_made, Cond.code yX11_made cX11_made 14 (some .int), Cond.methodLink RX11 225 yX11_named, Cond.instanceMethod yX11_named, Cond.code yX11_named cX11_named 8 (some .int), Cond.methodLink RX11 231 yX11_size, Cond.static yX11_size, Cond.code yX11_size cX11_size 2 (some .long), Cond.methodLink RX11 238 yX11_downLong, Cond.static yX11_downLong, Cond.code yX11_downLong cX11_downLong 4 (some .long), Cond.methodLink RX11 251 yX11_slipped, Cond.instanceMethod yX11_slipped, Cond.code yX11_slipped cX11_slipped 8 (some .int)] := conj_of [1329, 0, 1, 0, 0, 1, 0, 1, 0, 0, 2, 0, 0, 1, 1, 0] rfl (by decide +kernel)
set_option maxRecDepth 100000 in
theorem gk_37 : conjG [Cond.methodLink RX11 255 yX11_madeMarked, Cond.instanceMethod yX11_madeMarked, Cond.code yX11_madeMarked cX11_madeMarked 6 (some .boolean), Cond.methodLink RX11 244 yX11_namedMarked, Cond.instanceMethod yX11_namedMarked, Cond.code yX11_namedMarked cX11_namedMarked 7 (some .boolean), Cond.methodLink RX11 296 yX11_tells, Cond.instanceMethod yX11_tells, Cond.code yX11_tells cX11_tells 4 (some .int), Cond.methodLink RX11 299 yX11_isEven, Cond.instanceMethod yX11_isEven, Cond.code yX11_isEven cX11_isEven 7 (some .boolean), Cond.methodLink RX11 314 yX11_ownEnds, Cond.instanceMethod yX11_ownEnds, Cond.code yX11_ownEnds cX11_ownEnds 2 none, Cond.methodLink RX11 309 yX11_ends] := conj_of [1352, 1, 0, 0, 1, 0, 39, 1, 0, 4, 1, 0, 28, 1, 0, 0] rfl (by decide +kernel)
set_option maxRecDepth 100000 in
theorem gk_38 : conjG [Cond.instanceMethod yX11_ends, Cond.code yX11_ends cX11_ends 9 none, Cond.methodLink RX11 317 yX11_lastOf, Cond.instanceMethod yX11_lastOf, Cond.code yX11_lastOf cX11_lastOf 4 (some .int), Cond.methodLink RX11 320 yX11_gives, Cond.instanceMethod yX11_gives, Cond.code yX11_gives cX11_gives 5 none, Cond.methodLink RX11 334 yX11_moveAll, Cond.instanceMethod yX11_moveAll, Cond.code yX11_moveAll cX11_moveAll 4 none, Cond.methodLink RX11 330 yX11_moves, Cond.instanceMethod yX11_moves, Cond.code yX11_moves cX11_moves 6 (some .int), Cond.methodLink RX11 326 yX11_slot, Cond.instanceMethod yX11_slot] := conj_of [1445, 0, 0, 1, 0, 8, 1, 0, 13, 1, 0, 0, 1, 0, 0, 1] rfl (by decide +kernel)
set_option maxRecDepth 100000 in
theorem gk_39 : conjG [Cond.code yX11_slot cX11_slot 8 (some .int)] := conj_of [1487] rfl (by decide +kernel)
set_option maxRecDepth 100000 in
theorem gl_RX0_18 : Cond.methodLink RX0 18 yJ9_min_7cf53 ∈ gtbl := gk_7.2.2.2.2.2.2.2.2.2.2.2.2.1
set_option maxRecDepth 100000 in
theorem gt_J9_min_7cf53 : Cond.static yJ9_min_7cf53 ∈ gtbl := gk_6.1
set_option maxRecDepth 100000 in
theorem gp0_J9_min_7cf53 : (parseMethodDescriptor yJ9_min_7cf53.desc).map (fun d => d.parameters.length) = some 2 := by decide +kernel
set_option maxRecDepth 100000 in
theorem gc_J9_min_7cf53 : Cond.code yJ9_min_7cf53 prog_15_method_69_code 2 (some .int) ∈ gtbl := gk_6.2.1
set_option maxRecDepth 100000 in
theorem gi_J9_min_7cf53 : Cond.initialized yJ9_min_7cf53.cls ∈ gtbl := gk_4.2.2.2.2.2.2.2.2.2.2.2.2.1
set_option maxRecDepth 100000 in
theorem gh_J9_min_7cf53 : yJ9_min_7cf53.cls ≠ "java/lang/invoke/MethodHandle" ∧ yJ9_min_7cf53.cls ≠ "java/lang/invoke/VarHandle" := ⟨by decide +kernel, by decide +kernel⟩
set_option maxRecDepth 100000 in
theorem gl_RX0_24 : Cond.methodLink RX0 24 yJ9_max_7cf53 ∈ gtbl := gk_7.2.2.2.2.2.2.2.2.2.2.2.2.2.1
set_option maxRecDepth 100000 in
theorem gt_J9_max_7cf53 : Cond.static yJ9_max_7cf53 ∈ gtbl := gk_6.2.2.2.1
set_option maxRecDepth 100000 in
theorem gp0_J9_max_7cf53 : (parseMethodDescriptor yJ9_max_7cf53.desc).map (fun d => d.parameters.length) = some 2 := gp0_J9_min_7cf53
set_option maxRecDepth 100000 in
theorem gc_J9_max_7cf53 : Cond.code yJ9_max_7cf53 prog_15_method_65_code 2 (some .int) ∈ gtbl := gk_6.2.2.2.2.1
set_option maxRecDepth 100000 in
theorem gi_J9_max_7cf53 : Cond.initialized yJ9_max_7cf53.cls ∈ gtbl := gi_J9_min_7cf53
set_option maxRecDepth 100000 in
theorem gh_J9_max_7cf53 : yJ9_max_7cf53.cls ≠ "java/lang/invoke/MethodHandle" ∧ yJ9_max_7cf53.cls ≠ "java/lang/invoke/VarHandle" := gh_J9_min_7cf53
set_option maxRecDepth 100000 in
theorem gl_RX0_39 : Cond.methodLink RX0 39 yX0_takeFirsts ∈ gtbl := gk_15.2.2.2.2.2.2.2.2.2.2.2.2.2.2.2.1
set_option maxRecDepth 100000 in
theorem gn_X0_takeFirsts : Cond.instanceMethod yX0_takeFirsts ∈ gtbl := gk_16.1
set_option maxRecDepth 100000 in
theorem gs_X0_takeFirsts : Cond.selects (fR 0) yX0_takeFirsts yX0_takeFirsts ∈ gtbl := gk_1.1
set_option maxRecDepth 100000 in
theorem gp1_X0_takeFirsts : (parseMethodDescriptor yX0_takeFirsts.desc).map (fun d => d.parameters.length + 1) = some 3 := by decide +kernel
set_option maxRecDepth 100000 in
theorem gc_X0_takeFirsts : Cond.code yX0_takeFirsts cX0_takeFirsts 6 none ∈ gtbl := gk_16.2.1
set_option maxRecDepth 100000 in
theorem gi_X0_takeFirsts : Cond.initialized yX0_takeFirsts.cls ∈ gtbl := gk_5.1
set_option maxRecDepth 100000 in
theorem gh_X0_takeFirsts : yX0_takeFirsts.cls ≠ "java/lang/invoke/MethodHandle" ∧ yX0_takeFirsts.cls ≠ "java/lang/invoke/VarHandle" := ⟨by decide +kernel, by decide +kernel⟩
set_option maxRecDepth 100000 in
theorem gl_RX0_59 : Cond.methodLink RX0 59 yX0_made ∈ gtbl := gk_17.2.2.2.2.2.2.2.2.2.2.1
set_option maxRecDepth 100000 in
theorem gn_X0_made : Cond.instanceMethod yX0_made ∈ gtbl := gk_17.2.2.2.2.2.2.2.2.2.2.2.1
set_option maxRecDepth 100000 in
theorem gs_X0_made : Cond.selects (fR 0) yX0_made yX0_made ∈ gtbl := gk_17.2.2.2.2.2.2.2.2.2.2.2.2.1
set_option maxRecDepth 100000 in
theorem gp1_X0_made : (parseMethodDescriptor yX0_made.desc).map (fun d => d.parameters.length + 1) = some 6 := by decide +kernel
set_option maxRecDepth 100000 in
theorem gc_X0_made : Cond.code yX0_made cX0_made 13 (some .int) ∈ gtbl := gk_17.2.2.2.2.2.2.2.2.2.2.2.2.2.1
set_option maxRecDepth 100000 in
theorem gi_X0_made : Cond.initialized yX0_made.cls ∈ gtbl := gi_X0_takeFirsts
set_option maxRecDepth 100000 in
theorem gh_X0_made : yX0_made.cls ≠ "java/lang/invoke/MethodHandle" ∧ yX0_made.cls ≠ "java/lang/invoke/VarHandle" := gh_X0_takeFirsts
set_option maxRecDepth 100000 in
theorem gl_RX0_63 : Cond.methodLink RX0 63 yX7_slipped ∈ gtbl := gk_19.2.2.2.2.2.2.2.2.2.2.2.2.2.1
set_option maxRecDepth 100000 in
theorem gn_X7_slipped : Cond.instanceMethod yX7_slipped ∈ gtbl := gk_19.2.2.2.2.2.2.2.2.2.2.2.2.2.2.1
set_option maxRecDepth 100000 in
theorem gs_X7_slipped : Cond.selects (fR 7) yX7_slipped yX7_slipped ∈ gtbl := gk_19.2.2.2.2.2.2.2.2.2.2.2.2.2.2.2.1
set_option maxRecDepth 100000 in
theorem gp1_X7_slipped : (parseMethodDescriptor yX7_slipped.desc).map (fun d => d.parameters.length + 1) = some 6 := by decide +kernel
set_option maxRecDepth 100000 in
theorem gc_X7_slipped : Cond.code yX7_slipped cX7_slipped 8 (some .int) ∈ gtbl := gk_20.1
set_option maxRecDepth 100000 in
theorem gi_X7_slipped : Cond.initialized yX7_slipped.cls ∈ gtbl := gk_4.2.2.2.2.2.2.2.2.2.2.2.2.2.2.2.1
set_option maxRecDepth 100000 in
theorem gh_X7_slipped : yX7_slipped.cls ≠ "java/lang/invoke/MethodHandle" ∧ yX7_slipped.cls ≠ "java/lang/invoke/VarHandle" := ⟨by decide +kernel, by decide +kernel⟩
set_option maxRecDepth 100000 in
theorem gl_RX0_67 : Cond.methodLink RX0 67 yX0_set ∈ gtbl := gk_17.2.2.2.2.2.2.1
set_option maxRecDepth 100000 in
theorem gn_X0_set : Cond.instanceMethod yX0_set ∈ gtbl := gk_17.2.2.2.2.2.2.2.1
set_option maxRecDepth 100000 in
theorem gs_X0_set : Cond.selects (fR 0) yX0_set yX0_set ∈ gtbl := gk_17.2.2.2.2.2.2.2.2.1
set_option maxRecDepth 100000 in
theorem gp1_X0_set : (parseMethodDescriptor yX0_set.desc).map (fun d => d.parameters.length + 1) = some 5 := by decide +kernel
set_option maxRecDepth 100000 in
theorem gc_X0_set : Cond.code yX0_set cX0_set 6 none ∈ gtbl := gk_17.2.2.2.2.2.2.2.2.2.1
set_option maxRecDepth 100000 in
theorem gi_X0_set : Cond.initialized yX0_set.cls ∈ gtbl := gi_X0_takeFirsts
set_option maxRecDepth 100000 in
theorem gh_X0_set : yX0_set.cls ≠ "java/lang/invoke/MethodHandle" ∧ yX0_set.cls ≠ "java/lang/invoke/VarHandle" := gh_X0_takeFirsts
set_option maxRecDepth 100000 in
theorem gl_RX0_71 : Cond.methodLink RX0 71 yX7_isGap ∈ gtbl := gk_16.2.2.1
set_option maxRecDepth 100000 in
theorem gn_X7_isGap : Cond.instanceMethod yX7_isGap ∈ gtbl := gk_16.2.2.2.1
set_option maxRecDepth 100000 in
theorem gs_X7_isGap : Cond.selects (fR 7) yX7_isGap yX7_isGap ∈ gtbl := gk_16.2.2.2.2.1
set_option maxRecDepth 100000 in
theorem gp1_X7_isGap : (parseMethodDescriptor yX7_isGap.desc).map (fun d => d.parameters.length + 1) = some 3 := by decide +kernel
set_option maxRecDepth 100000 in
theorem gc_X7_isGap : Cond.code yX7_isGap cX7_isGap 3 (some .boolean) ∈ gtbl := gk_16.2.2.2.2.2.1
set_option maxRecDepth 100000 in
theorem gi_X7_isGap : Cond.initialized yX7_isGap.cls ∈ gtbl := gi_X7_slipped
set_option maxRecDepth 100000 in
theorem gh_X7_isGap : yX7_isGap.cls ≠ "java/lang/invoke/MethodHandle" ∧ yX7_isGap.cls ≠ "java/lang/invoke/VarHandle" := gh_X7_slipped
set_option maxRecDepth 100000 in
theorem gl_RX0_75 : Cond.methodLink RX0 75 yX7_filled ∈ gtbl := gk_16.2.2.2.2.2.2.2.2.2.2.1
set_option maxRecDepth 100000 in
theorem gn_X7_filled : Cond.instanceMethod yX7_filled ∈ gtbl := gk_16.2.2.2.2.2.2.2.2.2.2.2.1
set_option maxRecDepth 100000 in
theorem gs_X7_filled : Cond.selects (fR 7) yX7_filled yX7_filled ∈ gtbl := gk_16.2.2.2.2.2.2.2.2.2.2.2.2.1
set_option maxRecDepth 100000 in
theorem gp1_X7_filled : (parseMethodDescriptor yX7_filled.desc).map (fun d => d.parameters.length + 1) = some 4 := by decide +kernel
set_option maxRecDepth 100000 in
theorem gc_X7_filled : Cond.code yX7_filled cX7_filled 9 (some .int) ∈ gtbl := gk_16.2.2.2.2.2.2.2.2.2.2.2.2.2.1
set_option maxRecDepth 100000 in
theorem gi_X7_filled : Cond.initialized yX7_filled.cls ∈ gtbl := gi_X7_slipped
set_option maxRecDepth 100000 in
theorem gh_X7_filled : yX7_filled.cls ≠ "java/lang/invoke/MethodHandle" ∧ yX7_filled.cls ≠ "java/lang/invoke/VarHandle" := gh_X7_slipped
set_option maxRecDepth 100000 in
theorem gl_RX0_79 : Cond.methodLink RX0 79 yX7_firstAt ∈ gtbl := gk_17.2.2.2.2.2.1
set_option maxRecDepth 100000 in
theorem gn_X7_firstAt : Cond.instanceMethod yX7_firstAt ∈ gtbl := gk_16.2.2.2.2.2.2.2.1
set_option maxRecDepth 100000 in
theorem gs_X7_firstAt : Cond.selects (fR 7) yX7_firstAt yX7_firstAt ∈ gtbl := gk_16.2.2.2.2.2.2.2.2.1
set_option maxRecDepth 100000 in
theorem gp1_X7_firstAt : (parseMethodDescriptor yX7_firstAt.desc).map (fun d => d.parameters.length + 1) = some 3 := by decide +kernel
set_option maxRecDepth 100000 in
theorem gc_X7_firstAt : Cond.code yX7_firstAt cX7_firstAt 4 (some .int) ∈ gtbl := gk_16.2.2.2.2.2.2.2.2.2.1
set_option maxRecDepth 100000 in
theorem gi_X7_firstAt : Cond.initialized yX7_firstAt.cls ∈ gtbl := gi_X7_slipped
set_option maxRecDepth 100000 in
theorem gh_X7_firstAt : yX7_firstAt.cls ≠ "java/lang/invoke/MethodHandle" ∧ yX7_firstAt.cls ≠ "java/lang/invoke/VarHandle" := gh_X7_slipped
set_option maxRecDepth 100000 in
theorem gl_RX0_85 : Cond.methodLink RX0 85 yX0_number ∈ gtbl := gk_17.2.2.2.2.2.2.2.2.2.2.2.2.2.2.1
set_option maxRecDepth 100000 in
theorem gn_X0_number : Cond.instanceMethod yX0_number ∈ gtbl := gk_17.2.2.2.2.2.2.2.2.2.2.2.2.2.2.2.1
set_option maxRecDepth 100000 in
theorem gs_X0_number : Cond.selects (fR 0) yX0_number yX0_number ∈ gtbl := gk_18.1
set_option maxRecDepth 100000 in
theorem gp1_X0_number : (parseMethodDescriptor yX0_number.desc).map (fun d => d.parameters.length + 1) = some 4 := by decide +kernel
set_option maxRecDepth 100000 in
theorem gc_X0_number : Cond.code yX0_number cX0_number 5 (some .int) ∈ gtbl := gk_18.2.1
set_option maxRecDepth 100000 in
theorem gi_X0_number : Cond.initialized yX0_number.cls ∈ gtbl := gi_X0_takeFirsts
set_option maxRecDepth 100000 in
theorem gh_X0_number : yX0_number.cls ≠ "java/lang/invoke/MethodHandle" ∧ yX0_number.cls ≠ "java/lang/invoke/VarHandle" := gh_X0_takeFirsts
set_option maxRecDepth 100000 in
theorem gl_RX0_89 : Cond.methodLink RX0 89 yX5_end ∈ gtbl := gk_18.2.2.1
set_option maxRecDepth 100000 in
theorem gn_X5_end : Cond.instanceMethod yX5_end ∈ gtbl := gk_14.2.2.2.2.2.2.2.2.2.2.2.2.2.2.1
set_option maxRecDepth 100000 in
theorem gs_X5_end : Cond.selects (fR 5) yX5_end yX5_end ∈ gtbl := gk_14.2.2.2.2.2.2.2.2.2.2.2.2.2.2.2.1
set_option maxRecDepth 100000 in
theorem gp1_X5_end : (parseMethodDescriptor yX5_end.desc).map (fun d => d.parameters.length + 1) = some 2 := by decide +kernel
set_option maxRecDepth 100000 in
theorem gc_X5_end : Cond.code yX5_end cX5_end 2 (some .int) ∈ gtbl := gk_15.1
set_option maxRecDepth 100000 in
theorem gi_X5_end : Cond.initialized yX5_end.cls ∈ gtbl := gk_4.2.2.2.2.2.2.2.2.2.2.2.2.2.2.1
set_option maxRecDepth 100000 in
theorem gh_X5_end : yX5_end.cls ≠ "java/lang/invoke/MethodHandle" ∧ yX5_end.cls ≠ "java/lang/invoke/VarHandle" := ⟨by decide +kernel, by decide +kernel⟩
set_option maxRecDepth 100000 in
theorem gl_RX0_96 : Cond.methodLink RX0 96 yX0_termMade ∈ gtbl := gk_18.2.2.2.1
set_option maxRecDepth 100000 in
theorem gn_X0_termMade : Cond.instanceMethod yX0_termMade ∈ gtbl := gk_18.2.2.2.2.1
set_option maxRecDepth 100000 in
theorem gs_X0_termMade : Cond.selects (fR 0) yX0_termMade yX0_termMade ∈ gtbl := gk_1.2.1
set_option maxRecDepth 100000 in
theorem gp1_X0_termMade : (parseMethodDescriptor yX0_termMade.desc).map (fun d => d.parameters.length + 1) = some 6 := by decide +kernel
set_option maxRecDepth 100000 in
theorem gc_X0_termMade : Cond.code yX0_termMade cX0_termMade 11 (some .long) ∈ gtbl := gk_18.2.2.2.2.2.1
set_option maxRecDepth 100000 in
theorem gi_X0_termMade : Cond.initialized yX0_termMade.cls ∈ gtbl := gi_X0_takeFirsts
set_option maxRecDepth 100000 in
theorem gh_X0_termMade : yX0_termMade.cls ≠ "java/lang/invoke/MethodHandle" ∧ yX0_termMade.cls ≠ "java/lang/invoke/VarHandle" := gh_X0_takeFirsts
set_option maxRecDepth 100000 in
theorem gl_RX0_102 : Cond.methodLink RX0 102 yX5_divided ∈ gtbl := gk_19.2.2.2.2.2.2.1
set_option maxRecDepth 100000 in
theorem gn_X5_divided : Cond.instanceMethod yX5_divided ∈ gtbl := gk_19.2.2.2.2.2.2.2.1
set_option maxRecDepth 100000 in
theorem gs_X5_divided : Cond.selects (fR 5) yX5_divided yX5_divided ∈ gtbl := gk_19.2.2.2.2.2.2.2.2.1
set_option maxRecDepth 100000 in
theorem gp1_X5_divided : (parseMethodDescriptor yX5_divided.desc).map (fun d => d.parameters.length + 1) = some 3 := by decide +kernel
set_option maxRecDepth 100000 in
theorem gc_X5_divided : Cond.code yX5_divided cX5_divided 8 (some .int) ∈ gtbl := gk_19.2.2.2.2.2.2.2.2.2.1
set_option maxRecDepth 100000 in
theorem gi_X5_divided : Cond.initialized yX5_divided.cls ∈ gtbl := gi_X5_end
set_option maxRecDepth 100000 in
theorem gh_X5_divided : yX5_divided.cls ≠ "java/lang/invoke/MethodHandle" ∧ yX5_divided.cls ≠ "java/lang/invoke/VarHandle" := gh_X5_end
set_option maxRecDepth 100000 in
theorem gl_RX0_109 : Cond.methodLink RX0 109 yX0_named ∈ gtbl := gk_18.2.2.2.2.2.2.1
set_option maxRecDepth 100000 in
theorem gn_X0_named : Cond.instanceMethod yX0_named ∈ gtbl := gk_18.2.2.2.2.2.2.2.1
set_option maxRecDepth 100000 in
theorem gs_X0_named : Cond.selects (fR 0) yX0_named yX0_named ∈ gtbl := gk_1.2.2.1
set_option maxRecDepth 100000 in
theorem gp1_X0_named : (parseMethodDescriptor yX0_named.desc).map (fun d => d.parameters.length + 1) = some 6 := gp1_X0_made
set_option maxRecDepth 100000 in
theorem gc_X0_named : Cond.code yX0_named cX0_named 8 (some .int) ∈ gtbl := gk_18.2.2.2.2.2.2.2.2.1
set_option maxRecDepth 100000 in
theorem gi_X0_named : Cond.initialized yX0_named.cls ∈ gtbl := gi_X0_takeFirsts
set_option maxRecDepth 100000 in
theorem gh_X0_named : yX0_named.cls ≠ "java/lang/invoke/MethodHandle" ∧ yX0_named.cls ≠ "java/lang/invoke/VarHandle" := gh_X0_takeFirsts
set_option maxRecDepth 100000 in
theorem gl_RX0_117 : Cond.methodLink RX0 117 yJ9_abs_067f4 ∈ gtbl := gk_19.2.2.2.1
set_option maxRecDepth 100000 in
theorem gt_J9_abs_067f4 : Cond.static yJ9_abs_067f4 ∈ gtbl := gk_19.2.2.2.2.1
set_option maxRecDepth 100000 in
theorem gp0_J9_abs_067f4 : (parseMethodDescriptor yJ9_abs_067f4.desc).map (fun d => d.parameters.length) = some 1 := by decide +kernel
set_option maxRecDepth 100000 in
theorem gc_J9_abs_067f4 : Cond.code yJ9_abs_067f4 prog_15_method_61_code 2 (some .long) ∈ gtbl := gk_19.2.2.2.2.2.1
set_option maxRecDepth 100000 in
theorem gi_J9_abs_067f4 : Cond.initialized yJ9_abs_067f4.cls ∈ gtbl := gi_J9_min_7cf53
set_option maxRecDepth 100000 in
theorem gh_J9_abs_067f4 : yJ9_abs_067f4.cls ≠ "java/lang/invoke/MethodHandle" ∧ yJ9_abs_067f4.cls ≠ "java/lang/invoke/VarHandle" := gh_J9_min_7cf53
set_option maxRecDepth 100000 in
theorem gl_RX0_126 : Cond.methodLink RX0 126 yX5_letterOf ∈ gtbl := gk_18.2.2.2.2.2.2.2.2.2.1
set_option maxRecDepth 100000 in
theorem gt_X5_letterOf : Cond.static yX5_letterOf ∈ gtbl := gk_18.2.2.2.2.2.2.2.2.2.2.1
set_option maxRecDepth 100000 in
theorem gp0_X5_letterOf : (parseMethodDescriptor yX5_letterOf.desc).map (fun d => d.parameters.length) = some 1 := by decide +kernel
set_option maxRecDepth 100000 in
theorem gc_X5_letterOf : Cond.code yX5_letterOf cX5_letterOf 1 (some .int) ∈ gtbl := gk_18.2.2.2.2.2.2.2.2.2.2.2.1
set_option maxRecDepth 100000 in
theorem gi_X5_letterOf : Cond.initialized yX5_letterOf.cls ∈ gtbl := gi_X5_end
set_option maxRecDepth 100000 in
theorem gh_X5_letterOf : yX5_letterOf.cls ≠ "java/lang/invoke/MethodHandle" ∧ yX5_letterOf.cls ≠ "java/lang/invoke/VarHandle" := gh_X5_end
set_option maxRecDepth 100000 in
theorem gl_RX0_129 : Cond.methodLink RX0 129 yX5_sideOf ∈ gtbl := gk_18.2.2.2.2.2.2.2.2.2.2.2.2.1
set_option maxRecDepth 100000 in
theorem gt_X5_sideOf : Cond.static yX5_sideOf ∈ gtbl := gk_18.2.2.2.2.2.2.2.2.2.2.2.2.2.1
set_option maxRecDepth 100000 in
theorem gp0_X5_sideOf : (parseMethodDescriptor yX5_sideOf.desc).map (fun d => d.parameters.length) = some 1 := gp0_X5_letterOf
set_option maxRecDepth 100000 in
theorem gc_X5_sideOf : Cond.code yX5_sideOf cX5_sideOf 1 (some .int) ∈ gtbl := gk_18.2.2.2.2.2.2.2.2.2.2.2.2.2.2.1
set_option maxRecDepth 100000 in
theorem gi_X5_sideOf : Cond.initialized yX5_sideOf.cls ∈ gtbl := gi_X5_end
set_option maxRecDepth 100000 in
theorem gh_X5_sideOf : yX5_sideOf.cls ≠ "java/lang/invoke/MethodHandle" ∧ yX5_sideOf.cls ≠ "java/lang/invoke/VarHandle" := gh_X5_end
set_option maxRecDepth 100000 in
theorem gl_RX0_132 : Cond.methodLink RX0 132 yX3_beside ∈ gtbl := gk_18.2.2.2.2.2.2.2.2.2.2.2.2.2.2.2.1
set_option maxRecDepth 100000 in
theorem gn_X3_beside : Cond.instanceMethod yX3_beside ∈ gtbl := gk_16.2.2.2.2.2.2.2.2.2.2.2.2.2.2.2.1
set_option maxRecDepth 100000 in
theorem gs_X3_beside : Cond.selects (fR 3) yX3_beside yX3_beside ∈ gtbl := gk_17.1
set_option maxRecDepth 100000 in
theorem gp1_X3_beside : (parseMethodDescriptor yX3_beside.desc).map (fun d => d.parameters.length + 1) = some 3 := gp1_X7_firstAt
set_option maxRecDepth 100000 in
theorem gc_X3_beside : Cond.code yX3_beside cX3_beside 4 (some .int) ∈ gtbl := gk_17.2.1
set_option maxRecDepth 100000 in
theorem gi_X3_beside : Cond.initialized yX3_beside.cls ∈ gtbl := gk_4.2.2.2.2.2.2.2.2.2.2.2.1
set_option maxRecDepth 100000 in
theorem gh_X3_beside : yX3_beside.cls ≠ "java/lang/invoke/MethodHandle" ∧ yX3_beside.cls ≠ "java/lang/invoke/VarHandle" := ⟨by decide +kernel, by decide +kernel⟩
set_option maxRecDepth 100000 in
theorem gl_RX0_138 : Cond.methodLink RX0 138 yX5_isNow ∈ gtbl := gk_19.1
set_option maxRecDepth 100000 in
theorem gt_X5_isNow : Cond.static yX5_isNow ∈ gtbl := gk_19.2.1
set_option maxRecDepth 100000 in
theorem gp0_X5_isNow : (parseMethodDescriptor yX5_isNow.desc).map (fun d => d.parameters.length) = some 1 := by decide +kernel
set_option maxRecDepth 100000 in
theorem gc_X5_isNow : Cond.code yX5_isNow cX5_isNow 1 (some .boolean) ∈ gtbl := gk_19.2.2.1
set_option maxRecDepth 100000 in
theorem gi_X5_isNow : Cond.initialized yX5_isNow.cls ∈ gtbl := gi_X5_end
set_option maxRecDepth 100000 in
theorem gh_X5_isNow : yX5_isNow.cls ≠ "java/lang/invoke/MethodHandle" ∧ yX5_isNow.cls ≠ "java/lang/invoke/VarHandle" := gh_X5_end
set_option maxRecDepth 100000 in
theorem gl_RX0_145 : Cond.methodLink RX0 145 yX0_counted ∈ gtbl := gk_22.2.2.2.2.1
set_option maxRecDepth 100000 in
theorem gn_X0_counted : Cond.instanceMethod yX0_counted ∈ gtbl := gk_22.2.2.2.2.2.1
set_option maxRecDepth 100000 in
theorem gs_X0_counted : Cond.selects (fR 0) yX0_counted yX0_counted ∈ gtbl := gk_1.2.2.2.2.2.2.2.2.1
set_option maxRecDepth 100000 in
theorem gp1_X0_counted : (parseMethodDescriptor yX0_counted.desc).map (fun d => d.parameters.length + 1) = some 4 := gp1_X0_number
set_option maxRecDepth 100000 in
theorem gc_X0_counted : Cond.code yX0_counted cX0_counted 5 (some .int) ∈ gtbl := gk_22.2.2.2.2.2.2.1
set_option maxRecDepth 100000 in
theorem gi_X0_counted : Cond.initialized yX0_counted.cls ∈ gtbl := gi_X0_takeFirsts
set_option maxRecDepth 100000 in
theorem gh_X0_counted : yX0_counted.cls ≠ "java/lang/invoke/MethodHandle" ∧ yX0_counted.cls ≠ "java/lang/invoke/VarHandle" := gh_X0_takeFirsts
set_option maxRecDepth 100000 in
theorem gl_RX1_28 : Cond.methodLink RX1 28 yX1_clearTold ∈ gtbl := gk_8.2.2.2.1
set_option maxRecDepth 100000 in
theorem gn_X1_clearTold : Cond.instanceMethod yX1_clearTold ∈ gtbl := gk_8.2.2.2.2.1
set_option maxRecDepth 100000 in
theorem gs_X1_clearTold : Cond.selects (fR 1) yX1_clearTold yX1_clearTold ∈ gtbl := gk_8.2.2.2.2.2.1
set_option maxRecDepth 100000 in
theorem gp1_X1_clearTold : (parseMethodDescriptor yX1_clearTold.desc).map (fun d => d.parameters.length + 1) = some 1 := by decide +kernel
set_option maxRecDepth 100000 in
theorem gc_X1_clearTold : Cond.code yX1_clearTold cX1_clearTold 2 none ∈ gtbl := gk_8.2.2.2.2.2.2.1
set_option maxRecDepth 100000 in
theorem gi_X1_clearTold : Cond.initialized yX1_clearTold.cls ∈ gtbl := gk_5.2.2.1
set_option maxRecDepth 100000 in
theorem gh_X1_clearTold : yX1_clearTold.cls ≠ "java/lang/invoke/MethodHandle" ∧ yX1_clearTold.cls ≠ "java/lang/invoke/VarHandle" := ⟨by decide +kernel, by decide +kernel⟩
set_option maxRecDepth 100000 in
theorem gl_RX1_45 : Cond.methodLink RX1 45 yX0_rowSum ∈ gtbl := gk_25.2.2.2.2.1
set_option maxRecDepth 100000 in
theorem gn_X0_rowSum : Cond.instanceMethod yX0_rowSum ∈ gtbl := gk_22.2.1
set_option maxRecDepth 100000 in
theorem gs_X0_rowSum : Cond.selects (fR 0) yX0_rowSum yX0_rowSum ∈ gtbl := gk_22.2.2.1
set_option maxRecDepth 100000 in
theorem gp1_X0_rowSum : (parseMethodDescriptor yX0_rowSum.desc).map (fun d => d.parameters.length + 1) = some 5 := by decide +kernel
set_option maxRecDepth 100000 in
theorem gc_X0_rowSum : Cond.code yX0_rowSum cX0_rowSum 8 (some .long) ∈ gtbl := gk_22.2.2.2.1
set_option maxRecDepth 100000 in
theorem gi_X0_rowSum : Cond.initialized yX0_rowSum.cls ∈ gtbl := gi_X0_takeFirsts
set_option maxRecDepth 100000 in
theorem gh_X0_rowSum : yX0_rowSum.cls ≠ "java/lang/invoke/MethodHandle" ∧ yX0_rowSum.cls ≠ "java/lang/invoke/VarHandle" := gh_X0_takeFirsts
set_option maxRecDepth 100000 in
theorem gl_RX1_54 : Cond.methodLink RX1 54 yX0_columnSum ∈ gtbl := gk_25.2.2.2.2.2.1
set_option maxRecDepth 100000 in
theorem gn_X0_columnSum : Cond.instanceMethod yX0_columnSum ∈ gtbl := gk_25.2.2.2.2.2.2.1
set_option maxRecDepth 100000 in
theorem gs_X0_columnSum : Cond.selects (fR 0) yX0_columnSum yX0_columnSum ∈ gtbl := gk_25.2.2.2.2.2.2.2.1
set_option maxRecDepth 100000 in
theorem gp1_X0_columnSum : (parseMethodDescriptor yX0_columnSum.desc).map (fun d => d.parameters.length + 1) = some 5 := gp1_X0_rowSum
set_option maxRecDepth 100000 in
theorem gc_X0_columnSum : Cond.code yX0_columnSum cX0_columnSum 8 (some .long) ∈ gtbl := gk_25.2.2.2.2.2.2.2.2.1
set_option maxRecDepth 100000 in
theorem gi_X0_columnSum : Cond.initialized yX0_columnSum.cls ∈ gtbl := gi_X0_takeFirsts
set_option maxRecDepth 100000 in
theorem gh_X0_columnSum : yX0_columnSum.cls ≠ "java/lang/invoke/MethodHandle" ∧ yX0_columnSum.cls ≠ "java/lang/invoke/VarHandle" := gh_X0_takeFirsts
set_option maxRecDepth 100000 in
theorem gl_RX1_57 : Cond.methodLink RX1 57 yX1_addLack ∈ gtbl := gk_26.2.1
set_option maxRecDepth 100000 in
theorem gn_X1_addLack : Cond.instanceMethod yX1_addLack ∈ gtbl := gk_26.2.2.1
set_option maxRecDepth 100000 in
theorem gs_X1_addLack : Cond.selects (fR 1) yX1_addLack yX1_addLack ∈ gtbl := gk_1.2.2.2.2.2.2.2.2.2.2.2.2.2.1
set_option maxRecDepth 100000 in
theorem gp1_X1_addLack : (parseMethodDescriptor yX1_addLack.desc).map (fun d => d.parameters.length + 1) = some 3 := gp1_X5_divided
set_option maxRecDepth 100000 in
theorem gc_X1_addLack : Cond.code yX1_addLack cX1_addLack 4 (some .int) ∈ gtbl := gk_26.2.2.2.1
set_option maxRecDepth 100000 in
theorem gi_X1_addLack : Cond.initialized yX1_addLack.cls ∈ gtbl := gi_X1_clearTold
set_option maxRecDepth 100000 in
theorem gh_X1_addLack : yX1_addLack.cls ≠ "java/lang/invoke/MethodHandle" ∧ yX1_addLack.cls ≠ "java/lang/invoke/VarHandle" := gh_X1_clearTold
set_option maxRecDepth 100000 in
theorem gl_RX1_61 : Cond.methodLink RX1 61 yX1_mostParts ∈ gtbl := gk_26.2.2.2.2.1
set_option maxRecDepth 100000 in
theorem gn_X1_mostParts : Cond.instanceMethod yX1_mostParts ∈ gtbl := gk_26.2.2.2.2.2.1
set_option maxRecDepth 100000 in
theorem gs_X1_mostParts : Cond.selects (fR 1) yX1_mostParts yX1_mostParts ∈ gtbl := gk_1.2.2.2.2.2.2.2.2.2.2.2.2.2.2.1
set_option maxRecDepth 100000 in
theorem gp1_X1_mostParts : (parseMethodDescriptor yX1_mostParts.desc).map (fun d => d.parameters.length + 1) = some 3 := gp1_X7_firstAt
set_option maxRecDepth 100000 in
theorem gc_X1_mostParts : Cond.code yX1_mostParts cX1_mostParts 5 (some .int) ∈ gtbl := gk_26.2.2.2.2.2.2.1
set_option maxRecDepth 100000 in
theorem gi_X1_mostParts : Cond.initialized yX1_mostParts.cls ∈ gtbl := gi_X1_clearTold
set_option maxRecDepth 100000 in
theorem gh_X1_mostParts : yX1_mostParts.cls ≠ "java/lang/invoke/MethodHandle" ∧ yX1_mostParts.cls ≠ "java/lang/invoke/VarHandle" := gh_X1_clearTold
set_option maxRecDepth 100000 in
theorem gl_RX1_65 : Cond.methodLink RX1 65 yX1_findEvenSets ∈ gtbl := gk_26.2.2.2.2.2.2.2.1
set_option maxRecDepth 100000 in
theorem gn_X1_findEvenSets : Cond.instanceMethod yX1_findEvenSets ∈ gtbl := gk_26.2.2.2.2.2.2.2.2.1
set_option maxRecDepth 100000 in
theorem gs_X1_findEvenSets : Cond.selects (fR 1) yX1_findEvenSets yX1_findEvenSets ∈ gtbl := gk_1.2.2.2.2.2.2.2.2.2.2.2.2.2.2.2.1
set_option maxRecDepth 100000 in
theorem gp1_X1_findEvenSets : (parseMethodDescriptor yX1_findEvenSets.desc).map (fun d => d.parameters.length + 1) = some 2 := by decide +kernel
set_option maxRecDepth 100000 in
theorem gc_X1_findEvenSets : Cond.code yX1_findEvenSets cX1_findEvenSets 7 none ∈ gtbl := gk_26.2.2.2.2.2.2.2.2.2.1
set_option maxRecDepth 100000 in
theorem gi_X1_findEvenSets : Cond.initialized yX1_findEvenSets.cls ∈ gtbl := gi_X1_clearTold
set_option maxRecDepth 100000 in
theorem gh_X1_findEvenSets : yX1_findEvenSets.cls ≠ "java/lang/invoke/MethodHandle" ∧ yX1_findEvenSets.cls ≠ "java/lang/invoke/VarHandle" := gh_X1_clearTold
set_option maxRecDepth 100000 in
theorem gl_RX1_69 : Cond.methodLink RX1 69 yX1_partsOf ∈ gtbl := gk_26.2.2.2.2.2.2.2.2.2.2.2.2.2.1
set_option maxRecDepth 100000 in
theorem gn_X1_partsOf : Cond.instanceMethod yX1_partsOf ∈ gtbl := gk_26.2.2.2.2.2.2.2.2.2.2.2.2.2.2.1
set_option maxRecDepth 100000 in
theorem gs_X1_partsOf : Cond.selects (fR 1) yX1_partsOf yX1_partsOf ∈ gtbl := gk_2.1
set_option maxRecDepth 100000 in
theorem gp1_X1_partsOf : (parseMethodDescriptor yX1_partsOf.desc).map (fun d => d.parameters.length + 1) = some 3 := gp1_X7_firstAt
set_option maxRecDepth 100000 in
theorem gc_X1_partsOf : Cond.code yX1_partsOf cX1_partsOf 7 (some .int) ∈ gtbl := gk_26.2.2.2.2.2.2.2.2.2.2.2.2.2.2.2.1
set_option maxRecDepth 100000 in
theorem gi_X1_partsOf : Cond.initialized yX1_partsOf.cls ∈ gtbl := gi_X1_clearTold
set_option maxRecDepth 100000 in
theorem gh_X1_partsOf : yX1_partsOf.cls ≠ "java/lang/invoke/MethodHandle" ∧ yX1_partsOf.cls ≠ "java/lang/invoke/VarHandle" := gh_X1_clearTold
set_option maxRecDepth 100000 in
theorem gl_RX1_72 : Cond.methodLink RX1 72 yJ9_max_7cf53 ∈ gtbl := gk_27.1
set_option maxRecDepth 100000 in
theorem gl_RX1_77 : Cond.methodLink RX1 77 yJ6_numberOfTrailingZeros_0f7a4 ∈ gtbl := gk_26.2.2.2.2.2.2.2.2.2.2.1
set_option maxRecDepth 100000 in
theorem gt_J6_numberOfTrailingZeros_0f7a4 : Cond.static yJ6_numberOfTrailingZeros_0f7a4 ∈ gtbl := gk_26.2.2.2.2.2.2.2.2.2.2.2.1
set_option maxRecDepth 100000 in
theorem gp0_J6_numberOfTrailingZeros_0f7a4 : (parseMethodDescriptor yJ6_numberOfTrailingZeros_0f7a4.desc).map (fun d => d.parameters.length) = some 1 := gp0_X5_letterOf
set_option maxRecDepth 100000 in
theorem gc_J6_numberOfTrailingZeros_0f7a4 : Cond.code yJ6_numberOfTrailingZeros_0f7a4 prog_14_method_48_code 2 (some .int) ∈ gtbl := gk_26.2.2.2.2.2.2.2.2.2.2.2.2.1
set_option maxRecDepth 100000 in
theorem gi_J6_numberOfTrailingZeros_0f7a4 : Cond.initialized yJ6_numberOfTrailingZeros_0f7a4.cls ∈ gtbl := gk_5.2.2.2.2.2.2.2.1
set_option maxRecDepth 100000 in
theorem gh_J6_numberOfTrailingZeros_0f7a4 : yJ6_numberOfTrailingZeros_0f7a4.cls ≠ "java/lang/invoke/MethodHandle" ∧ yJ6_numberOfTrailingZeros_0f7a4.cls ≠ "java/lang/invoke/VarHandle" := ⟨by decide +kernel, by decide +kernel⟩
set_option maxRecDepth 100000 in
theorem gl_RX3_15 : Cond.methodLink RX3 15 yX3_shape ∈ gtbl := gk_5.2.2.2.2.2.2.2.2.2.2.2.1
set_option maxRecDepth 100000 in
theorem gn_X3_shape : Cond.instanceMethod yX3_shape ∈ gtbl := gk_5.2.2.2.2.2.2.2.2.2.2.2.2.1
set_option maxRecDepth 100000 in
theorem gs_X3_shape : Cond.selects (fR 3) yX3_shape yX3_shape ∈ gtbl := gk_5.2.2.2.2.2.2.2.2.2.2.2.2.2.1
set_option maxRecDepth 100000 in
theorem gp1_X3_shape : (parseMethodDescriptor yX3_shape.desc).map (fun d => d.parameters.length + 1) = some 4 := by decide +kernel
set_option maxRecDepth 100000 in
theorem gc_X3_shape : Cond.code yX3_shape cX3_shape 7 none ∈ gtbl := gk_5.2.2.2.2.2.2.2.2.2.2.2.2.2.2.1
set_option maxRecDepth 100000 in
theorem gi_X3_shape : Cond.initialized yX3_shape.cls ∈ gtbl := gi_X3_beside
set_option maxRecDepth 100000 in
theorem gh_X3_shape : yX3_shape.cls ≠ "java/lang/invoke/MethodHandle" ∧ yX3_shape.cls ≠ "java/lang/invoke/VarHandle" := gh_X3_beside
set_option maxRecDepth 100000 in
theorem gl_RX3_19 : Cond.methodLink RX3 19 yJ9_min_7cf53 ∈ gtbl := gk_5.2.2.2.2.2.2.2.2.2.2.2.2.2.2.2.1
set_option maxRecDepth 100000 in
theorem gl_RX3_25 : Cond.methodLink RX3 25 yJ9_max_7cf53 ∈ gtbl := gk_6.2.2.1
set_option maxRecDepth 100000 in
theorem gl_RX3_38 : Cond.methodLink RX3 38 yX3_found ∈ gtbl := gk_6.2.2.2.2.2.1
set_option maxRecDepth 100000 in
theorem gn_X3_found : Cond.instanceMethod yX3_found ∈ gtbl := gk_6.2.2.2.2.2.2.1
set_option maxRecDepth 100000 in
theorem gs_X3_found : Cond.selects (fR 3) yX3_found yX3_found ∈ gtbl := gk_0.1
set_option maxRecDepth 100000 in
theorem gp1_X3_found : (parseMethodDescriptor yX3_found.desc).map (fun d => d.parameters.length + 1) = some 5 := by decide +kernel
set_option maxRecDepth 100000 in
theorem gc_X3_found : Cond.code yX3_found cX3_found 7 (some .int) ∈ gtbl := gk_6.2.2.2.2.2.2.2.1
set_option maxRecDepth 100000 in
theorem gi_X3_found : Cond.initialized yX3_found.cls ∈ gtbl := gi_X3_beside
set_option maxRecDepth 100000 in
theorem gh_X3_found : yX3_found.cls ≠ "java/lang/invoke/MethodHandle" ∧ yX3_found.cls ≠ "java/lang/invoke/VarHandle" := gh_X3_beside
set_option maxRecDepth 100000 in
theorem gl_RX4_24 : Cond.methodLink RX4 24 yX4_markGaps ∈ gtbl := gk_20.2.2.2.2.2.2.1
set_option maxRecDepth 100000 in
theorem gn_X4_markGaps : Cond.instanceMethod yX4_markGaps ∈ gtbl := gk_20.2.2.2.2.2.2.2.1
set_option maxRecDepth 100000 in
theorem gs_X4_markGaps : Cond.selects (fR 4) yX4_markGaps yX4_markGaps ∈ gtbl := gk_1.2.2.2.1
set_option maxRecDepth 100000 in
theorem gp1_X4_markGaps : (parseMethodDescriptor yX4_markGaps.desc).map (fun d => d.parameters.length + 1) = some 3 := by decide +kernel
set_option maxRecDepth 100000 in
theorem gc_X4_markGaps : Cond.code yX4_markGaps cX4_markGaps 4 none ∈ gtbl := gk_20.2.2.2.2.2.2.2.2.1
set_option maxRecDepth 100000 in
theorem gi_X4_markGaps : Cond.initialized yX4_markGaps.cls ∈ gtbl := gk_5.2.1
set_option maxRecDepth 100000 in
theorem gh_X4_markGaps : yX4_markGaps.cls ≠ "java/lang/invoke/MethodHandle" ∧ yX4_markGaps.cls ≠ "java/lang/invoke/VarHandle" := ⟨by decide +kernel, by decide +kernel⟩
set_option maxRecDepth 100000 in
theorem gl_RX4_28 : Cond.methodLink RX4 28 yX4_markCell ∈ gtbl := gk_20.2.2.2.2.2.2.2.2.2.2.2.2.2.1
set_option maxRecDepth 100000 in
theorem gn_X4_markCell : Cond.instanceMethod yX4_markCell ∈ gtbl := gk_20.2.2.2.2.2.2.2.2.2.2.2.2.2.2.1
set_option maxRecDepth 100000 in
theorem gs_X4_markCell : Cond.selects (fR 4) yX4_markCell yX4_markCell ∈ gtbl := gk_1.2.2.2.2.2.1
set_option maxRecDepth 100000 in
theorem gp1_X4_markCell : (parseMethodDescriptor yX4_markCell.desc).map (fun d => d.parameters.length + 1) = some 5 := by decide +kernel
set_option maxRecDepth 100000 in
theorem gc_X4_markCell : Cond.code yX4_markCell cX4_markCell 7 none ∈ gtbl := gk_20.2.2.2.2.2.2.2.2.2.2.2.2.2.2.2.1
set_option maxRecDepth 100000 in
theorem gi_X4_markCell : Cond.initialized yX4_markCell.cls ∈ gtbl := gi_X4_markGaps
set_option maxRecDepth 100000 in
theorem gh_X4_markCell : yX4_markCell.cls ≠ "java/lang/invoke/MethodHandle" ∧ yX4_markCell.cls ≠ "java/lang/invoke/VarHandle" := gh_X4_markGaps
set_option maxRecDepth 100000 in
theorem gl_RX4_32 : Cond.methodLink RX4 32 yX7_isGap ∈ gtbl := gk_20.2.2.2.2.2.2.2.2.2.1
set_option maxRecDepth 100000 in
theorem gl_RX4_38 : Cond.methodLink RX4 38 yX4_mark ∈ gtbl := gk_20.2.2.2.2.2.2.2.2.2.2.1
set_option maxRecDepth 100000 in
theorem gn_X4_mark : Cond.instanceMethod yX4_mark ∈ gtbl := gk_20.2.2.2.2.2.2.2.2.2.2.2.1
set_option maxRecDepth 100000 in
theorem gs_X4_mark : Cond.selects (fR 4) yX4_mark yX4_mark ∈ gtbl := gk_1.2.2.2.2.1
set_option maxRecDepth 100000 in
theorem gp1_X4_mark : (parseMethodDescriptor yX4_mark.desc).map (fun d => d.parameters.length + 1) = some 4 := gp1_X3_shape
set_option maxRecDepth 100000 in
theorem gc_X4_mark : Cond.code yX4_mark cX4_mark 5 none ∈ gtbl := gk_20.2.2.2.2.2.2.2.2.2.2.2.2.1
set_option maxRecDepth 100000 in
theorem gi_X4_mark : Cond.initialized yX4_mark.cls ∈ gtbl := gi_X4_markGaps
set_option maxRecDepth 100000 in
theorem gh_X4_mark : yX4_mark.cls ≠ "java/lang/invoke/MethodHandle" ∧ yX4_mark.cls ≠ "java/lang/invoke/VarHandle" := gh_X4_markGaps
set_option maxRecDepth 100000 in
theorem gl_RX4_51 : Cond.methodLink RX4 51 yX4_leans ∈ gtbl := gk_21.1
set_option maxRecDepth 100000 in
theorem gn_X4_leans : Cond.instanceMethod yX4_leans ∈ gtbl := gk_21.2.1
set_option maxRecDepth 100000 in
theorem gs_X4_leans : Cond.selects (fR 4) yX4_leans yX4_leans ∈ gtbl := gk_1.2.2.2.2.2.2.1
set_option maxRecDepth 100000 in
theorem gp1_X4_leans : (parseMethodDescriptor yX4_leans.desc).map (fun d => d.parameters.length + 1) = some 6 := by decide +kernel
set_option maxRecDepth 100000 in
theorem gc_X4_leans : Cond.code yX4_leans cX4_leans 7 (some .boolean) ∈ gtbl := gk_21.2.2.1
set_option maxRecDepth 100000 in
theorem gi_X4_leans : Cond.initialized yX4_leans.cls ∈ gtbl := gi_X4_markGaps
set_option maxRecDepth 100000 in
theorem gh_X4_leans : yX4_leans.cls ≠ "java/lang/invoke/MethodHandle" ∧ yX4_leans.cls ≠ "java/lang/invoke/VarHandle" := gh_X4_markGaps
set_option maxRecDepth 100000 in
theorem gl_RX4_58 : Cond.methodLink RX4 58 yX4_has ∈ gtbl := gk_21.2.2.2.1
set_option maxRecDepth 100000 in
theorem gn_X4_has : Cond.instanceMethod yX4_has ∈ gtbl := gk_21.2.2.2.2.1
set_option maxRecDepth 100000 in
theorem gs_X4_has : Cond.selects (fR 4) yX4_has yX4_has ∈ gtbl := gk_21.2.2.2.2.2.1
set_option maxRecDepth 100000 in
theorem gp1_X4_has : (parseMethodDescriptor yX4_has.desc).map (fun d => d.parameters.length + 1) = some 4 := by decide +kernel
set_option maxRecDepth 100000 in
theorem gc_X4_has : Cond.code yX4_has cX4_has 5 (some .boolean) ∈ gtbl := gk_21.2.2.2.2.2.2.1
set_option maxRecDepth 100000 in
theorem gi_X4_has : Cond.initialized yX4_has.cls ∈ gtbl := gi_X4_markGaps
set_option maxRecDepth 100000 in
theorem gh_X4_has : yX4_has.cls ≠ "java/lang/invoke/MethodHandle" ∧ yX4_has.cls ≠ "java/lang/invoke/VarHandle" := gh_X4_markGaps
set_option maxRecDepth 100000 in
theorem gl_RX4_65 : Cond.methodLink RX4 65 yX5_end ∈ gtbl := gk_21.2.2.2.2.2.2.2.1
set_option maxRecDepth 100000 in
theorem gl_RX4_72 : Cond.methodLink RX4 72 yX4_isMarked ∈ gtbl := gk_21.2.2.2.2.2.2.2.2.1
set_option maxRecDepth 100000 in
theorem gn_X4_isMarked : Cond.instanceMethod yX4_isMarked ∈ gtbl := gk_21.2.2.2.2.2.2.2.2.2.1
set_option maxRecDepth 100000 in
theorem gs_X4_isMarked : Cond.selects (fR 4) yX4_isMarked yX4_isMarked ∈ gtbl := gk_1.2.2.2.2.2.2.2.1
set_option maxRecDepth 100000 in
theorem gp1_X4_isMarked : (parseMethodDescriptor yX4_isMarked.desc).map (fun d => d.parameters.length + 1) = some 5 := by decide +kernel
set_option maxRecDepth 100000 in
theorem gc_X4_isMarked : Cond.code yX4_isMarked cX4_isMarked 6 (some .boolean) ∈ gtbl := gk_21.2.2.2.2.2.2.2.2.2.2.1
set_option maxRecDepth 100000 in
theorem gi_X4_isMarked : Cond.initialized yX4_isMarked.cls ∈ gtbl := gi_X4_markGaps
set_option maxRecDepth 100000 in
theorem gh_X4_isMarked : yX4_isMarked.cls ≠ "java/lang/invoke/MethodHandle" ∧ yX4_isMarked.cls ≠ "java/lang/invoke/VarHandle" := gh_X4_markGaps
set_option maxRecDepth 100000 in
theorem gl_RX4_79 : Cond.methodLink RX4 79 yX5_sideOf ∈ gtbl := gk_21.2.2.2.2.2.2.2.2.2.2.2.1
set_option maxRecDepth 100000 in
theorem gl_RX4_82 : Cond.methodLink RX4 82 yX3_beside ∈ gtbl := gk_21.2.2.2.2.2.2.2.2.2.2.2.2.1
set_option maxRecDepth 100000 in
theorem gl_RX4_86 : Cond.methodLink RX4 86 yX5_isNow ∈ gtbl := gk_21.2.2.2.2.2.2.2.2.2.2.2.2.2.1
set_option maxRecDepth 100000 in
theorem gl_RX4_90 : Cond.methodLink RX4 90 yX5_letterOf ∈ gtbl := gk_21.2.2.2.2.2.2.2.2.2.2.2.2.2.2.1
set_option maxRecDepth 100000 in
theorem gl_RX5_40 : Cond.methodLink RX5 40 yX5_clear ∈ gtbl := gk_6.2.2.2.2.2.2.2.2.2.2.2.2.2.1
set_option maxRecDepth 100000 in
theorem gn_X5_clear : Cond.instanceMethod yX5_clear ∈ gtbl := gk_6.2.2.2.2.2.2.2.2.2.2.2.2.2.2.1
set_option maxRecDepth 100000 in
theorem gs_X5_clear : Cond.selects (fR 5) yX5_clear yX5_clear ∈ gtbl := gk_6.2.2.2.2.2.2.2.2.2.2.2.2.2.2.2.1
set_option maxRecDepth 100000 in
theorem gp1_X5_clear : (parseMethodDescriptor yX5_clear.desc).map (fun d => d.parameters.length + 1) = some 1 := gp1_X1_clearTold
set_option maxRecDepth 100000 in
theorem gc_X5_clear : Cond.code yX5_clear cX5_clear 2 none ∈ gtbl := gk_7.1
set_option maxRecDepth 100000 in
theorem gi_X5_clear : Cond.initialized yX5_clear.cls ∈ gtbl := gi_X5_end
set_option maxRecDepth 100000 in
theorem gh_X5_clear : yX5_clear.cls ≠ "java/lang/invoke/MethodHandle" ∧ yX5_clear.cls ≠ "java/lang/invoke/VarHandle" := gh_X5_end
set_option maxRecDepth 100000 in
theorem gl_RX5_50 : Cond.methodLink RX5 50 yJ9_min_7cf53 ∈ gtbl := gk_15.2.1
set_option maxRecDepth 100000 in
theorem gl_RX5_56 : Cond.methodLink RX5 56 yX5_end ∈ gtbl := gk_14.2.2.2.2.2.2.2.2.2.2.2.2.2.1
set_option maxRecDepth 100000 in
theorem gl_RX5_60 : Cond.methodLink RX5 60 yX5_letterOf ∈ gtbl := gk_23.2.2.2.2.2.2.2.2.2.2.2.2.2.2.1
set_option maxRecDepth 100000 in
theorem gl_RX5_63 : Cond.methodLink RX5 63 yX5_isNow ∈ gtbl := gk_23.2.2.2.2.2.2.2.2.2.2.2.2.2.2.2.1
set_option maxRecDepth 100000 in
theorem gl_RX5_67 : Cond.methodLink RX5 67 yX5_hasProduct ∈ gtbl := gk_24.1
set_option maxRecDepth 100000 in
theorem gn_X5_hasProduct : Cond.instanceMethod yX5_hasProduct ∈ gtbl := gk_14.2.2.2.2.2.2.2.2.2.2.1
set_option maxRecDepth 100000 in
theorem gs_X5_hasProduct : Cond.selects (fR 5) yX5_hasProduct yX5_hasProduct ∈ gtbl := gk_14.2.2.2.2.2.2.2.2.2.2.2.1
set_option maxRecDepth 100000 in
theorem gp1_X5_hasProduct : (parseMethodDescriptor yX5_hasProduct.desc).map (fun d => d.parameters.length + 1) = some 2 := by decide +kernel
set_option maxRecDepth 100000 in
theorem gc_X5_hasProduct : Cond.code yX5_hasProduct cX5_hasProduct 3 (some .boolean) ∈ gtbl := gk_14.2.2.2.2.2.2.2.2.2.2.2.2.1
set_option maxRecDepth 100000 in
theorem gi_X5_hasProduct : Cond.initialized yX5_hasProduct.cls ∈ gtbl := gi_X5_end
set_option maxRecDepth 100000 in
theorem gh_X5_hasProduct : yX5_hasProduct.cls ≠ "java/lang/invoke/MethodHandle" ∧ yX5_hasProduct.cls ≠ "java/lang/invoke/VarHandle" := gh_X5_end
set_option maxRecDepth 100000 in
theorem gl_RX5_70 : Cond.methodLink RX5 70 yJ9_abs_0f7a4 ∈ gtbl := gk_24.2.2.2.2.2.1
set_option maxRecDepth 100000 in
theorem gt_J9_abs_0f7a4 : Cond.static yJ9_abs_0f7a4 ∈ gtbl := gk_24.2.2.2.2.2.2.1
set_option maxRecDepth 100000 in
theorem gp0_J9_abs_0f7a4 : (parseMethodDescriptor yJ9_abs_0f7a4.desc).map (fun d => d.parameters.length) = some 1 := gp0_X5_letterOf
set_option maxRecDepth 100000 in
theorem gc_J9_abs_0f7a4 : Cond.code yJ9_abs_0f7a4 prog_15_method_59_code 1 (some .int) ∈ gtbl := gk_24.2.2.2.2.2.2.2.1
set_option maxRecDepth 100000 in
theorem gi_J9_abs_0f7a4 : Cond.initialized yJ9_abs_0f7a4.cls ∈ gtbl := gi_J9_min_7cf53
set_option maxRecDepth 100000 in
theorem gh_J9_abs_0f7a4 : yJ9_abs_0f7a4.cls ≠ "java/lang/invoke/MethodHandle" ∧ yJ9_abs_0f7a4.cls ≠ "java/lang/invoke/VarHandle" := gh_J9_min_7cf53
set_option maxRecDepth 100000 in
theorem gl_RX5_80 : Cond.methodLink RX5 80 yJ9_floorDiv_f86c9 ∈ gtbl := gk_19.2.2.2.2.2.2.2.2.2.2.1
set_option maxRecDepth 100000 in
theorem gt_J9_floorDiv_f86c9 : Cond.static yJ9_floorDiv_f86c9 ∈ gtbl := gk_19.2.2.2.2.2.2.2.2.2.2.2.1
set_option maxRecDepth 100000 in
theorem gp0_J9_floorDiv_f86c9 : (parseMethodDescriptor yJ9_floorDiv_f86c9.desc).map (fun d => d.parameters.length) = some 2 := by decide +kernel
set_option maxRecDepth 100000 in
theorem gc_J9_floorDiv_f86c9 : Cond.code yJ9_floorDiv_f86c9 prog_15_method_49_code 6 (some .long) ∈ gtbl := gk_19.2.2.2.2.2.2.2.2.2.2.2.2.1
set_option maxRecDepth 100000 in
theorem gi_J9_floorDiv_f86c9 : Cond.initialized yJ9_floorDiv_f86c9.cls ∈ gtbl := gi_J9_min_7cf53
set_option maxRecDepth 100000 in
theorem gh_J9_floorDiv_f86c9 : yJ9_floorDiv_f86c9.cls ≠ "java/lang/invoke/MethodHandle" ∧ yJ9_floorDiv_f86c9.cls ≠ "java/lang/invoke/VarHandle" := gh_J9_min_7cf53
set_option maxRecDepth 100000 in
theorem gl_RX6_17 : Cond.methodLink RX6 17 yX5_init ∈ gtbl := gk_6.2.2.2.2.2.2.2.2.2.2.1
set_option maxRecDepth 100000 in
theorem gn_X5_init : Cond.instanceMethod yX5_init ∈ gtbl := gk_6.2.2.2.2.2.2.2.2.2.2.2.1
set_option maxRecDepth 100000 in
theorem gp1_X5_init : (parseMethodDescriptor yX5_init.desc).map (fun d => d.parameters.length + 1) = some 1 := gp1_X1_clearTold
set_option maxRecDepth 100000 in
theorem gc_X5_init : Cond.code yX5_init cX5_init 1 none ∈ gtbl := gk_6.2.2.2.2.2.2.2.2.2.2.2.2.1
set_option maxRecDepth 100000 in
theorem gi_X5_init : Cond.initialized yX5_init.cls ∈ gtbl := gi_X5_end
set_option maxRecDepth 100000 in
theorem gh_X5_init : yX5_init.cls ≠ "java/lang/invoke/MethodHandle" ∧ yX5_init.cls ≠ "java/lang/invoke/VarHandle" := gh_X5_end
set_option maxRecDepth 100000 in
theorem gl_RX6_26 : Cond.methodLink RX6 26 yX5_clear ∈ gtbl := gk_12.1
set_option maxRecDepth 100000 in
theorem gl_RX6_32 : Cond.methodLink RX6 32 yX6_readLine ∈ gtbl := gk_12.2.1
set_option maxRecDepth 100000 in
theorem gn_X6_readLine : Cond.instanceMethod yX6_readLine ∈ gtbl := gk_12.2.2.1
set_option maxRecDepth 100000 in
theorem gs_X6_readLine : Cond.selects (fR 6) yX6_readLine yX6_readLine ∈ gtbl := gk_0.2.2.2.2.2.1
set_option maxRecDepth 100000 in
theorem gp1_X6_readLine : (parseMethodDescriptor yX6_readLine.desc).map (fun d => d.parameters.length + 1) = some 1 := by decide +kernel
set_option maxRecDepth 100000 in
theorem gc_X6_readLine : Cond.code yX6_readLine cX6_readLine 3 (some .boolean) ∈ gtbl := gk_12.2.2.2.1
set_option maxRecDepth 100000 in
theorem gi_X6_readLine : Cond.initialized yX6_readLine.cls ∈ gtbl := gk_4.2.2.2.2.2.2.2.2.2.2.2.2.2.1
set_option maxRecDepth 100000 in
theorem gh_X6_readLine : yX6_readLine.cls ≠ "java/lang/invoke/MethodHandle" ∧ yX6_readLine.cls ≠ "java/lang/invoke/VarHandle" := ⟨by decide +kernel, by decide +kernel⟩
set_option maxRecDepth 100000 in
theorem gl_RX6_39 : Cond.methodLink RX6 39 yX6_ahead ∈ gtbl := gk_12.2.2.2.2.1
set_option maxRecDepth 100000 in
theorem gn_X6_ahead : Cond.instanceMethod yX6_ahead ∈ gtbl := gk_12.2.2.2.2.2.1
set_option maxRecDepth 100000 in
theorem gs_X6_ahead : Cond.selects (fR 6) yX6_ahead yX6_ahead ∈ gtbl := gk_0.2.2.2.2.2.2.1
set_option maxRecDepth 100000 in
theorem gp1_X6_ahead : (parseMethodDescriptor yX6_ahead.desc).map (fun d => d.parameters.length + 1) = some 1 := by decide +kernel
set_option maxRecDepth 100000 in
theorem gc_X6_ahead : Cond.code yX6_ahead cX6_ahead 1 (some .int) ∈ gtbl := gk_12.2.2.2.2.2.2.1
set_option maxRecDepth 100000 in
theorem gi_X6_ahead : Cond.initialized yX6_ahead.cls ∈ gtbl := gi_X6_readLine
set_option maxRecDepth 100000 in
theorem gh_X6_ahead : yX6_ahead.cls ≠ "java/lang/invoke/MethodHandle" ∧ yX6_ahead.cls ≠ "java/lang/invoke/VarHandle" := gh_X6_readLine
set_option maxRecDepth 100000 in
theorem gt_X10_isLetter : Cond.static yX10_isLetter ∈ gtbl := gk_11.2.2.2.1
set_option maxRecDepth 100000 in
theorem gp0_X10_isLetter : (parseMethodDescriptor yX10_isLetter.desc).map (fun d => d.parameters.length) = some 1 := gp0_X5_isNow
set_option maxRecDepth 100000 in
theorem gc_X10_isLetter : Cond.code yX10_isLetter cX10_isLetter 1 (some .boolean) ∈ gtbl := gk_11.2.2.2.2.1
set_option maxRecDepth 100000 in
theorem gi_X10_isLetter : Cond.initialized yX10_isLetter.cls ∈ gtbl := gk_4.2.2.2.2.2.2.2.2.2.2.1
set_option maxRecDepth 100000 in
theorem gh_X10_isLetter : yX10_isLetter.cls ≠ "java/lang/invoke/MethodHandle" ∧ yX10_isLetter.cls ≠ "java/lang/invoke/VarHandle" := ⟨by decide +kernel, by decide +kernel⟩
set_option maxRecDepth 100000 in
theorem gl_RX6_50 : Cond.methodLink RX6 50 yX6_refuse ∈ gtbl := gk_12.2.2.2.2.2.2.2.1
set_option maxRecDepth 100000 in
theorem gn_X6_refuse : Cond.instanceMethod yX6_refuse ∈ gtbl := gk_12.2.2.2.2.2.2.2.2.1
set_option maxRecDepth 100000 in
theorem gs_X6_refuse : Cond.selects (fR 6) yX6_refuse yX6_refuse ∈ gtbl := gk_0.2.2.2.2.2.2.2.1
set_option maxRecDepth 100000 in
theorem gp1_X6_refuse : (parseMethodDescriptor yX6_refuse.desc).map (fun d => d.parameters.length + 1) = some 2 := gp1_X5_hasProduct
set_option maxRecDepth 100000 in
theorem gc_X6_refuse : Cond.code yX6_refuse cX6_refuse 2 (some .boolean) ∈ gtbl := gk_12.2.2.2.2.2.2.2.2.2.1
set_option maxRecDepth 100000 in
theorem gi_X6_refuse : Cond.initialized yX6_refuse.cls ∈ gtbl := gi_X6_readLine
set_option maxRecDepth 100000 in
theorem gh_X6_refuse : yX6_refuse.cls ≠ "java/lang/invoke/MethodHandle" ∧ yX6_refuse.cls ≠ "java/lang/invoke/VarHandle" := gh_X6_readLine
set_option maxRecDepth 100000 in
theorem gl_RX6_53 : Cond.methodLink RX6 53 yX6_pass ∈ gtbl := gk_12.2.2.2.2.2.2.2.2.2.2.1
set_option maxRecDepth 100000 in
theorem gn_X6_pass : Cond.instanceMethod yX6_pass ∈ gtbl := gk_12.2.2.2.2.2.2.2.2.2.2.2.1
set_option maxRecDepth 100000 in
theorem gs_X6_pass : Cond.selects (fR 6) yX6_pass yX6_pass ∈ gtbl := gk_0.2.2.2.2.2.2.2.2.1
set_option maxRecDepth 100000 in
theorem gp1_X6_pass : (parseMethodDescriptor yX6_pass.desc).map (fun d => d.parameters.length + 1) = some 2 := gp1_X5_hasProduct
set_option maxRecDepth 100000 in
theorem gc_X6_pass : Cond.code yX6_pass cX6_pass 2 (some .boolean) ∈ gtbl := gk_12.2.2.2.2.2.2.2.2.2.2.2.2.1
set_option maxRecDepth 100000 in
theorem gi_X6_pass : Cond.initialized yX6_pass.cls ∈ gtbl := gi_X6_readLine
set_option maxRecDepth 100000 in
theorem gh_X6_pass : yX6_pass.cls ≠ "java/lang/invoke/MethodHandle" ∧ yX6_pass.cls ≠ "java/lang/invoke/VarHandle" := gh_X6_readLine
set_option maxRecDepth 100000 in
theorem gl_RX6_62 : Cond.methodLink RX6 62 yX6_readTerm ∈ gtbl := gk_12.2.2.2.2.2.2.2.2.2.2.2.2.2.1
set_option maxRecDepth 100000 in
theorem gn_X6_readTerm : Cond.instanceMethod yX6_readTerm ∈ gtbl := gk_12.2.2.2.2.2.2.2.2.2.2.2.2.2.2.1
set_option maxRecDepth 100000 in
theorem gs_X6_readTerm : Cond.selects (fR 6) yX6_readTerm yX6_readTerm ∈ gtbl := gk_0.2.2.2.2.2.2.2.2.2.1
set_option maxRecDepth 100000 in
theorem gp1_X6_readTerm : (parseMethodDescriptor yX6_readTerm.desc).map (fun d => d.parameters.length + 1) = some 1 := gp1_X6_readLine
set_option maxRecDepth 100000 in
theorem gc_X6_readTerm : Cond.code yX6_readTerm cX6_readTerm 5 (some .boolean) ∈ gtbl := gk_12.2.2.2.2.2.2.2.2.2.2.2.2.2.2.2.1
set_option maxRecDepth 100000 in
theorem gi_X6_readTerm : Cond.initialized yX6_readTerm.cls ∈ gtbl := gi_X6_readLine
set_option maxRecDepth 100000 in
theorem gh_X6_readTerm : yX6_readTerm.cls ≠ "java/lang/invoke/MethodHandle" ∧ yX6_readTerm.cls ≠ "java/lang/invoke/VarHandle" := gh_X6_readLine
set_option maxRecDepth 100000 in
theorem gl_RX6_65 : Cond.methodLink RX6 65 yX6_readNumber ∈ gtbl := gk_13.2.2.2.1
set_option maxRecDepth 100000 in
theorem gn_X6_readNumber : Cond.instanceMethod yX6_readNumber ∈ gtbl := gk_13.2.2.2.2.1
set_option maxRecDepth 100000 in
theorem gs_X6_readNumber : Cond.selects (fR 6) yX6_readNumber yX6_readNumber ∈ gtbl := gk_0.2.2.2.2.2.2.2.2.2.2.2.1
set_option maxRecDepth 100000 in
theorem gp1_X6_readNumber : (parseMethodDescriptor yX6_readNumber.desc).map (fun d => d.parameters.length + 1) = some 2 := gp1_X5_hasProduct
set_option maxRecDepth 100000 in
theorem gc_X6_readNumber : Cond.code yX6_readNumber cX6_readNumber 5 (some .boolean) ∈ gtbl := gk_13.2.2.2.2.2.1
set_option maxRecDepth 100000 in
theorem gi_X6_readNumber : Cond.initialized yX6_readNumber.cls ∈ gtbl := gi_X6_readLine
set_option maxRecDepth 100000 in
theorem gh_X6_readNumber : yX6_readNumber.cls ≠ "java/lang/invoke/MethodHandle" ∧ yX6_readNumber.cls ≠ "java/lang/invoke/VarHandle" := gh_X6_readLine
set_option maxRecDepth 100000 in
theorem gl_RX6_78 : Cond.methodLink RX6 78 yX5_closeLine ∈ gtbl := gk_14.2.1
set_option maxRecDepth 100000 in
theorem gn_X5_closeLine : Cond.instanceMethod yX5_closeLine ∈ gtbl := gk_14.2.2.1
set_option maxRecDepth 100000 in
theorem gs_X5_closeLine : Cond.selects (fR 5) yX5_closeLine yX5_closeLine ∈ gtbl := gk_14.2.2.2.1
set_option maxRecDepth 100000 in
theorem gp1_X5_closeLine : (parseMethodDescriptor yX5_closeLine.desc).map (fun d => d.parameters.length + 1) = some 2 := gp1_X1_findEvenSets
set_option maxRecDepth 100000 in
theorem gc_X5_closeLine : Cond.code yX5_closeLine cX5_closeLine 4 none ∈ gtbl := gk_14.2.2.2.2.1
set_option maxRecDepth 100000 in
theorem gi_X5_closeLine : Cond.initialized yX5_closeLine.cls ∈ gtbl := gi_X5_end
set_option maxRecDepth 100000 in
theorem gh_X5_closeLine : yX5_closeLine.cls ≠ "java/lang/invoke/MethodHandle" ∧ yX5_closeLine.cls ≠ "java/lang/invoke/VarHandle" := gh_X5_end
set_option maxRecDepth 100000 in
theorem gl_RX6_82 : Cond.methodLink RX6 82 yX6_isFigure ∈ gtbl := gk_13.1
set_option maxRecDepth 100000 in
theorem gn_X6_isFigure : Cond.instanceMethod yX6_isFigure ∈ gtbl := gk_13.2.1
set_option maxRecDepth 100000 in
theorem gs_X6_isFigure : Cond.selects (fR 6) yX6_isFigure yX6_isFigure ∈ gtbl := gk_0.2.2.2.2.2.2.2.2.2.2.1
set_option maxRecDepth 100000 in
theorem gp1_X6_isFigure : (parseMethodDescriptor yX6_isFigure.desc).map (fun d => d.parameters.length + 1) = some 1 := gp1_X6_readLine
set_option maxRecDepth 100000 in
theorem gc_X6_isFigure : Cond.code yX6_isFigure cX6_isFigure 1 (some .boolean) ∈ gtbl := gk_13.2.2.1
set_option maxRecDepth 100000 in
theorem gi_X6_isFigure : Cond.initialized yX6_isFigure.cls ∈ gtbl := gi_X6_readLine
set_option maxRecDepth 100000 in
theorem gh_X6_isFigure : yX6_isFigure.cls ≠ "java/lang/invoke/MethodHandle" ∧ yX6_isFigure.cls ≠ "java/lang/invoke/VarHandle" := gh_X6_readLine
set_option maxRecDepth 100000 in
theorem gl_RX6_85 : Cond.methodLink RX6 85 yX6_readName ∈ gtbl := gk_13.2.2.2.2.2.2.2.1
set_option maxRecDepth 100000 in
theorem gn_X6_readName : Cond.instanceMethod yX6_readName ∈ gtbl := gk_13.2.2.2.2.2.2.2.2.1
set_option maxRecDepth 100000 in
theorem gs_X6_readName : Cond.selects (fR 6) yX6_readName yX6_readName ∈ gtbl := gk_0.2.2.2.2.2.2.2.2.2.2.2.2.1
set_option maxRecDepth 100000 in
theorem gp1_X6_readName : (parseMethodDescriptor yX6_readName.desc).map (fun d => d.parameters.length + 1) = some 1 := gp1_X6_readLine
set_option maxRecDepth 100000 in
theorem gc_X6_readName : Cond.code yX6_readName cX6_readName 4 (some .boolean) ∈ gtbl := gk_13.2.2.2.2.2.2.2.2.2.1
set_option maxRecDepth 100000 in
theorem gi_X6_readName : Cond.initialized yX6_readName.cls ∈ gtbl := gi_X6_readLine
set_option maxRecDepth 100000 in
theorem gh_X6_readName : yX6_readName.cls ≠ "java/lang/invoke/MethodHandle" ∧ yX6_readName.cls ≠ "java/lang/invoke/VarHandle" := gh_X6_readLine
set_option maxRecDepth 100000 in
theorem gl_RX6_88 : Cond.methodLink RX6 88 yX5_addTerm ∈ gtbl := gk_13.2.2.2.2.2.2.2.2.2.2.2.2.2.1
set_option maxRecDepth 100000 in
theorem gn_X5_addTerm : Cond.instanceMethod yX5_addTerm ∈ gtbl := gk_13.2.2.2.2.2.2.2.2.2.2.2.2.2.2.1
set_option maxRecDepth 100000 in
theorem gs_X5_addTerm : Cond.selects (fR 5) yX5_addTerm yX5_addTerm ∈ gtbl := gk_13.2.2.2.2.2.2.2.2.2.2.2.2.2.2.2.1
set_option maxRecDepth 100000 in
theorem gp1_X5_addTerm : (parseMethodDescriptor yX5_addTerm.desc).map (fun d => d.parameters.length + 1) = some 4 := gp1_X3_shape
set_option maxRecDepth 100000 in
theorem gc_X5_addTerm : Cond.code yX5_addTerm cX5_addTerm 4 none ∈ gtbl := gk_14.1
set_option maxRecDepth 100000 in
theorem gi_X5_addTerm : Cond.initialized yX5_addTerm.cls ∈ gtbl := gi_X5_end
set_option maxRecDepth 100000 in
theorem gh_X5_addTerm : yX5_addTerm.cls ≠ "java/lang/invoke/MethodHandle" ∧ yX5_addTerm.cls ≠ "java/lang/invoke/VarHandle" := gh_X5_end
set_option maxRecDepth 100000 in
theorem gl_RX6_92 : Cond.methodLink RX6 92 yJ9_min_7cf53 ∈ gtbl := gk_13.2.2.2.2.2.2.1
set_option maxRecDepth 100000 in
theorem gl_RX6_98 : Cond.methodLink RX6 98 yX6_sideAhead ∈ gtbl := gk_13.2.2.2.2.2.2.2.2.2.2.1
set_option maxRecDepth 100000 in
theorem gn_X6_sideAhead : Cond.instanceMethod yX6_sideAhead ∈ gtbl := gk_13.2.2.2.2.2.2.2.2.2.2.2.1
set_option maxRecDepth 100000 in
theorem gs_X6_sideAhead : Cond.selects (fR 6) yX6_sideAhead yX6_sideAhead ∈ gtbl := gk_0.2.2.2.2.2.2.2.2.2.2.2.2.2.1
set_option maxRecDepth 100000 in
theorem gp1_X6_sideAhead : (parseMethodDescriptor yX6_sideAhead.desc).map (fun d => d.parameters.length + 1) = some 1 := gp1_X6_ahead
set_option maxRecDepth 100000 in
theorem gc_X6_sideAhead : Cond.code yX6_sideAhead cX6_sideAhead 1 (some .int) ∈ gtbl := gk_13.2.2.2.2.2.2.2.2.2.2.2.2.1
set_option maxRecDepth 100000 in
theorem gi_X6_sideAhead : Cond.initialized yX6_sideAhead.cls ∈ gtbl := gi_X6_readLine
set_option maxRecDepth 100000 in
theorem gh_X6_sideAhead : yX6_sideAhead.cls ≠ "java/lang/invoke/MethodHandle" ∧ yX6_sideAhead.cls ≠ "java/lang/invoke/VarHandle" := gh_X6_readLine
set_option maxRecDepth 100000 in
theorem gl_RX7_11 : Cond.methodLink RX7 11 yX5_init ∈ gtbl := gk_7.2.2.2.2.1
set_option maxRecDepth 100000 in
theorem gl_RX7_37 : Cond.methodLink RX7 37 yX7_clearFirsts ∈ gtbl := gk_7.2.2.2.2.2.1
set_option maxRecDepth 100000 in
theorem gn_X7_clearFirsts : Cond.instanceMethod yX7_clearFirsts ∈ gtbl := gk_7.2.2.2.2.2.2.1
set_option maxRecDepth 100000 in
theorem gs_X7_clearFirsts : Cond.selects (fR 7) yX7_clearFirsts yX7_clearFirsts ∈ gtbl := gk_7.2.2.2.2.2.2.2.1
set_option maxRecDepth 100000 in
theorem gp1_X7_clearFirsts : (parseMethodDescriptor yX7_clearFirsts.desc).map (fun d => d.parameters.length + 1) = some 1 := gp1_X1_clearTold
set_option maxRecDepth 100000 in
theorem gc_X7_clearFirsts : Cond.code yX7_clearFirsts cX7_clearFirsts 2 none ∈ gtbl := gk_7.2.2.2.2.2.2.2.2.1
set_option maxRecDepth 100000 in
theorem gi_X7_clearFirsts : Cond.initialized yX7_clearFirsts.cls ∈ gtbl := gi_X7_slipped
set_option maxRecDepth 100000 in
theorem gh_X7_clearFirsts : yX7_clearFirsts.cls ≠ "java/lang/invoke/MethodHandle" ∧ yX7_clearFirsts.cls ≠ "java/lang/invoke/VarHandle" := gh_X7_slipped
set_option maxRecDepth 100000 in
theorem gl_RX7_41 : Cond.methodLink RX7 41 yX5_takeAll ∈ gtbl := gk_31.2.2.2.2.2.2.2.2.2.2.1
set_option maxRecDepth 100000 in
theorem gn_X5_takeAll : Cond.instanceMethod yX5_takeAll ∈ gtbl := gk_14.2.2.2.2.2.2.1
set_option maxRecDepth 100000 in
theorem gs_X5_takeAll : Cond.selects (fR 5) yX5_takeAll yX5_takeAll ∈ gtbl := gk_14.2.2.2.2.2.2.2.1
set_option maxRecDepth 100000 in
theorem gp1_X5_takeAll : (parseMethodDescriptor yX5_takeAll.desc).map (fun d => d.parameters.length + 1) = some 2 := by decide +kernel
set_option maxRecDepth 100000 in
theorem gc_X5_takeAll : Cond.code yX5_takeAll cX5_takeAll 3 none ∈ gtbl := gk_14.2.2.2.2.2.2.2.2.1
set_option maxRecDepth 100000 in
theorem gi_X5_takeAll : Cond.initialized yX5_takeAll.cls ∈ gtbl := gi_X5_end
set_option maxRecDepth 100000 in
theorem gh_X5_takeAll : yX5_takeAll.cls ≠ "java/lang/invoke/MethodHandle" ∧ yX5_takeAll.cls ≠ "java/lang/invoke/VarHandle" := gh_X5_end
set_option maxRecDepth 100000 in
theorem gl_RX7_55 : Cond.methodLink RX7 55 yX7_firstAt ∈ gtbl := gk_16.2.2.2.2.2.2.1
set_option maxRecDepth 100000 in
theorem gl_RX7_59 : Cond.methodLink RX7 59 yX3_beside ∈ gtbl := gk_16.2.2.2.2.2.2.2.2.2.2.2.2.2.2.1
set_option maxRecDepth 100000 in
theorem gl_RX7_64 : Cond.methodLink RX7 64 yJ9_floorDiv_7cf53 ∈ gtbl := gk_17.2.2.1
set_option maxRecDepth 100000 in
theorem gt_J9_floorDiv_7cf53 : Cond.static yJ9_floorDiv_7cf53 ∈ gtbl := gk_17.2.2.2.1
set_option maxRecDepth 100000 in
theorem gp0_J9_floorDiv_7cf53 : (parseMethodDescriptor yJ9_floorDiv_7cf53.desc).map (fun d => d.parameters.length) = some 2 := gp0_J9_min_7cf53
set_option maxRecDepth 100000 in
theorem gc_J9_floorDiv_7cf53 : Cond.code yJ9_floorDiv_7cf53 prog_15_method_47_code 3 (some .int) ∈ gtbl := gk_17.2.2.2.2.1
set_option maxRecDepth 100000 in
theorem gi_J9_floorDiv_7cf53 : Cond.initialized yJ9_floorDiv_7cf53.cls ∈ gtbl := gi_J9_min_7cf53
set_option maxRecDepth 100000 in
theorem gh_J9_floorDiv_7cf53 : yJ9_floorDiv_7cf53.cls ≠ "java/lang/invoke/MethodHandle" ∧ yJ9_floorDiv_7cf53.cls ≠ "java/lang/invoke/VarHandle" := gh_J9_min_7cf53
set_option maxRecDepth 100000 in
theorem gn_X9_init : Cond.instanceMethod yX9_init ∈ gtbl := gk_8.2.2.2.2.2.2.2.2.2.2.1
set_option maxRecDepth 100000 in
theorem gp1_X9_init : (parseMethodDescriptor yX9_init.desc).map (fun d => d.parameters.length + 1) = some 1 := gp1_X1_clearTold
set_option maxRecDepth 100000 in
theorem gc_X9_init : Cond.code yX9_init cX9_init 1 none ∈ gtbl := gk_8.2.2.2.2.2.2.2.2.2.2.2.1
set_option maxRecDepth 100000 in
theorem gi_X9_init : Cond.initialized yX9_init.cls ∈ gtbl := gk_5.2.2.2.2.1
set_option maxRecDepth 100000 in
theorem gh_X9_init : yX9_init.cls ≠ "java/lang/invoke/MethodHandle" ∧ yX9_init.cls ≠ "java/lang/invoke/VarHandle" := ⟨by decide +kernel, by decide +kernel⟩
set_option maxRecDepth 100000 in
theorem gl_RX8_38 : Cond.methodLink RX8 38 yX9_deal ∈ gtbl := gk_29.2.2.2.2.2.1
set_option maxRecDepth 100000 in
theorem gn_X9_deal : Cond.instanceMethod yX9_deal ∈ gtbl := gk_29.2.2.2.2.2.2.1
set_option maxRecDepth 100000 in
theorem gs_X9_deal : Cond.selects (fR 9) yX9_deal yX9_deal ∈ gtbl := gk_29.2.2.2.2.2.2.2.1
set_option maxRecDepth 100000 in
theorem gp1_X9_deal : (parseMethodDescriptor yX9_deal.desc).map (fun d => d.parameters.length + 1) = some 4 := gp1_X3_shape
set_option maxRecDepth 100000 in
theorem gc_X9_deal : Cond.code yX9_deal cX9_deal 6 none ∈ gtbl := gk_29.2.2.2.2.2.2.2.2.1
set_option maxRecDepth 100000 in
theorem gi_X9_deal : Cond.initialized yX9_deal.cls ∈ gtbl := gi_X9_init
set_option maxRecDepth 100000 in
theorem gh_X9_deal : yX9_deal.cls ≠ "java/lang/invoke/MethodHandle" ∧ yX9_deal.cls ≠ "java/lang/invoke/VarHandle" := gh_X9_init
set_option maxRecDepth 100000 in
theorem gl_RX8_42 : Cond.methodLink RX8 42 yX9_endsAhead ∈ gtbl := gk_29.2.2.2.2.2.2.2.2.2.2.1
set_option maxRecDepth 100000 in
theorem gn_X9_endsAhead : Cond.instanceMethod yX9_endsAhead ∈ gtbl := gk_29.2.2.2.2.2.2.2.2.2.2.2.1
set_option maxRecDepth 100000 in
theorem gs_X9_endsAhead : Cond.selects (fR 9) yX9_endsAhead yX9_endsAhead ∈ gtbl := gk_29.2.2.2.2.2.2.2.2.2.2.2.2.1
set_option maxRecDepth 100000 in
theorem gp1_X9_endsAhead : (parseMethodDescriptor yX9_endsAhead.desc).map (fun d => d.parameters.length + 1) = some 5 := by decide +kernel
set_option maxRecDepth 100000 in
theorem gc_X9_endsAhead : Cond.code yX9_endsAhead cX9_endsAhead 6 (some .boolean) ∈ gtbl := gk_29.2.2.2.2.2.2.2.2.2.2.2.2.2.1
set_option maxRecDepth 100000 in
theorem gi_X9_endsAhead : Cond.initialized yX9_endsAhead.cls ∈ gtbl := gi_X9_init
set_option maxRecDepth 100000 in
theorem gh_X9_endsAhead : yX9_endsAhead.cls ≠ "java/lang/invoke/MethodHandle" ∧ yX9_endsAhead.cls ≠ "java/lang/invoke/VarHandle" := gh_X9_init
set_option maxRecDepth 100000 in
theorem gl_RX8_46 : Cond.methodLink RX8 46 yX8_take ∈ gtbl := gk_30.2.2.2.2.2.2.1
set_option maxRecDepth 100000 in
theorem gn_X8_take : Cond.instanceMethod yX8_take ∈ gtbl := gk_30.2.2.2.2.2.2.2.1
set_option maxRecDepth 100000 in
theorem gs_X8_take : Cond.selects (fR 8) yX8_take yX8_take ∈ gtbl := gk_2.2.2.2.2.2.2.1
set_option maxRecDepth 100000 in
theorem gp1_X8_take : (parseMethodDescriptor yX8_take.desc).map (fun d => d.parameters.length + 1) = some 2 := by decide +kernel
set_option maxRecDepth 100000 in
theorem gc_X8_take : Cond.code yX8_take cX8_take 3 none ∈ gtbl := gk_30.2.2.2.2.2.2.2.2.1
set_option maxRecDepth 100000 in
theorem gi_X8_take : Cond.initialized yX8_take.cls ∈ gtbl := gk_5.2.2.2.2.2.1
set_option maxRecDepth 100000 in
theorem gh_X8_take : yX8_take.cls ≠ "java/lang/invoke/MethodHandle" ∧ yX8_take.cls ≠ "java/lang/invoke/VarHandle" := ⟨by decide +kernel, by decide +kernel⟩
set_option maxRecDepth 100000 in
theorem gl_RX8_50 : Cond.methodLink RX8 50 yX9_lastMinute ∈ gtbl := gk_30.2.2.2.2.2.2.2.2.2.1
set_option maxRecDepth 100000 in
theorem gn_X9_lastMinute : Cond.instanceMethod yX9_lastMinute ∈ gtbl := gk_28.2.2.2.2.2.2.2.2.2.2.2.2.2.1
set_option maxRecDepth 100000 in
theorem gs_X9_lastMinute : Cond.selects (fR 9) yX9_lastMinute yX9_lastMinute ∈ gtbl := gk_28.2.2.2.2.2.2.2.2.2.2.2.2.2.2.1
set_option maxRecDepth 100000 in
theorem gp1_X9_lastMinute : (parseMethodDescriptor yX9_lastMinute.desc).map (fun d => d.parameters.length + 1) = some 3 := by decide +kernel
set_option maxRecDepth 100000 in
theorem gc_X9_lastMinute : Cond.code yX9_lastMinute cX9_lastMinute 5 (some .int) ∈ gtbl := gk_28.2.2.2.2.2.2.2.2.2.2.2.2.2.2.2.1
set_option maxRecDepth 100000 in
theorem gi_X9_lastMinute : Cond.initialized yX9_lastMinute.cls ∈ gtbl := gi_X9_init
set_option maxRecDepth 100000 in
theorem gh_X9_lastMinute : yX9_lastMinute.cls ≠ "java/lang/invoke/MethodHandle" ∧ yX9_lastMinute.cls ≠ "java/lang/invoke/VarHandle" := gh_X9_init
set_option maxRecDepth 100000 in
theorem gl_RX9_28 : Cond.methodLink RX9 28 yX9_restart ∈ gtbl := gk_9.2.2.2.2.2.1
set_option maxRecDepth 100000 in
theorem gn_X9_restart : Cond.instanceMethod yX9_restart ∈ gtbl := gk_9.2.2.2.2.2.2.1
set_option maxRecDepth 100000 in
theorem gs_X9_restart : Cond.selects (fR 9) yX9_restart yX9_restart ∈ gtbl := gk_9.2.2.2.2.2.2.2.1
set_option maxRecDepth 100000 in
theorem gp1_X9_restart : (parseMethodDescriptor yX9_restart.desc).map (fun d => d.parameters.length + 1) = some 1 := gp1_X1_clearTold
set_option maxRecDepth 100000 in
theorem gc_X9_restart : Cond.code yX9_restart cX9_restart 2 none ∈ gtbl := gk_9.2.2.2.2.2.2.2.2.1
set_option maxRecDepth 100000 in
theorem gi_X9_restart : Cond.initialized yX9_restart.cls ∈ gtbl := gi_X9_init
set_option maxRecDepth 100000 in
theorem gh_X9_restart : yX9_restart.cls ≠ "java/lang/invoke/MethodHandle" ∧ yX9_restart.cls ≠ "java/lang/invoke/VarHandle" := gh_X9_init
set_option maxRecDepth 100000 in
theorem gl_RX9_31 : Cond.methodLink RX9 31 yX9_work ∈ gtbl := gk_27.2.2.2.2.2.2.2.2.2.2.2.2.1
set_option maxRecDepth 100000 in
theorem gn_X9_work : Cond.instanceMethod yX9_work ∈ gtbl := gk_27.2.2.2.2.2.2.2.2.2.2.2.2.2.1
set_option maxRecDepth 100000 in
theorem gs_X9_work : Cond.selects (fR 9) yX9_work yX9_work ∈ gtbl := gk_2.2.2.1
set_option maxRecDepth 100000 in
theorem gp1_X9_work : (parseMethodDescriptor yX9_work.desc).map (fun d => d.parameters.length + 1) = some 4 := by decide +kernel
set_option maxRecDepth 100000 in
theorem gc_X9_work : Cond.code yX9_work cX9_work 8 none ∈ gtbl := gk_27.2.2.2.2.2.2.2.2.2.2.2.2.2.2.1
set_option maxRecDepth 100000 in
theorem gi_X9_work : Cond.initialized yX9_work.cls ∈ gtbl := gi_X9_init
set_option maxRecDepth 100000 in
theorem gh_X9_work : yX9_work.cls ≠ "java/lang/invoke/MethodHandle" ∧ yX9_work.cls ≠ "java/lang/invoke/VarHandle" := gh_X9_init
set_option maxRecDepth 100000 in
theorem gl_RX9_40 : Cond.methodLink RX9 40 yX9_notesCome ∈ gtbl := gk_27.2.2.2.2.2.2.2.2.2.2.2.2.2.2.2.1
set_option maxRecDepth 100000 in
theorem gn_X9_notesCome : Cond.instanceMethod yX9_notesCome ∈ gtbl := gk_28.1
set_option maxRecDepth 100000 in
theorem gs_X9_notesCome : Cond.selects (fR 9) yX9_notesCome yX9_notesCome ∈ gtbl := gk_2.2.2.2.1
set_option maxRecDepth 100000 in
theorem gp1_X9_notesCome : (parseMethodDescriptor yX9_notesCome.desc).map (fun d => d.parameters.length + 1) = some 5 := by decide +kernel
set_option maxRecDepth 100000 in
theorem gc_X9_notesCome : Cond.code yX9_notesCome cX9_notesCome 9 (some .int) ∈ gtbl := gk_28.2.1
set_option maxRecDepth 100000 in
theorem gi_X9_notesCome : Cond.initialized yX9_notesCome.cls ∈ gtbl := gi_X9_init
set_option maxRecDepth 100000 in
theorem gh_X9_notesCome : yX9_notesCome.cls ≠ "java/lang/invoke/MethodHandle" ∧ yX9_notesCome.cls ≠ "java/lang/invoke/VarHandle" := gh_X9_init
set_option maxRecDepth 100000 in
theorem gl_RX9_44 : Cond.methodLink RX9 44 yJ9_max_7cf53 ∈ gtbl := gk_28.2.2.2.2.2.2.2.1
set_option maxRecDepth 100000 in
theorem gl_RX9_50 : Cond.methodLink RX9 50 yX2_paceOf ∈ gtbl := gk_28.2.2.2.2.2.2.2.2.1
set_option maxRecDepth 100000 in
theorem gn_X2_paceOf : Cond.instanceMethod yX2_paceOf ∈ gtbl := gk_28.2.2.2.2.2.2.2.2.2.1
set_option maxRecDepth 100000 in
theorem gs_X2_paceOf : Cond.selects (fR 2) yX2_paceOf yX2_paceOf ∈ gtbl := gk_28.2.2.2.2.2.2.2.2.2.2.1
set_option maxRecDepth 100000 in
theorem gp1_X2_paceOf : (parseMethodDescriptor yX2_paceOf.desc).map (fun d => d.parameters.length + 1) = some 2 := gp1_X5_end
set_option maxRecDepth 100000 in
theorem gc_X2_paceOf : Cond.code yX2_paceOf cX2_paceOf 2 (some .int) ∈ gtbl := gk_28.2.2.2.2.2.2.2.2.2.2.2.1
set_option maxRecDepth 100000 in
theorem gi_X2_paceOf : Cond.initialized yX2_paceOf.cls ∈ gtbl := gk_5.2.2.2.1
set_option maxRecDepth 100000 in
theorem gh_X2_paceOf : yX2_paceOf.cls ≠ "java/lang/invoke/MethodHandle" ∧ yX2_paceOf.cls ≠ "java/lang/invoke/VarHandle" := ⟨by decide +kernel, by decide +kernel⟩
set_option maxRecDepth 100000 in
theorem gl_RX9_56 : Cond.methodLink RX9 56 yX3_beside ∈ gtbl := gk_28.2.2.1
set_option maxRecDepth 100000 in
theorem gl_RX9_62 : Cond.methodLink RX9 62 yX9_ended ∈ gtbl := gk_28.2.2.2.1
set_option maxRecDepth 100000 in
theorem gn_X9_ended : Cond.instanceMethod yX9_ended ∈ gtbl := gk_28.2.2.2.2.1
set_option maxRecDepth 100000 in
theorem gs_X9_ended : Cond.selects (fR 9) yX9_ended yX9_ended ∈ gtbl := gk_28.2.2.2.2.2.1
set_option maxRecDepth 100000 in
theorem gp1_X9_ended : (parseMethodDescriptor yX9_ended.desc).map (fun d => d.parameters.length + 1) = some 3 := gp1_X7_firstAt
set_option maxRecDepth 100000 in
theorem gc_X9_ended : Cond.code yX9_ended cX9_ended 4 (some .int) ∈ gtbl := gk_28.2.2.2.2.2.2.1
set_option maxRecDepth 100000 in
theorem gi_X9_ended : Cond.initialized yX9_ended.cls ∈ gtbl := gi_X9_init
set_option maxRecDepth 100000 in
theorem gh_X9_ended : yX9_ended.cls ≠ "java/lang/invoke/MethodHandle" ∧ yX9_ended.cls ≠ "java/lang/invoke/VarHandle" := gh_X9_init
set_option maxRecDepth 100000 in
theorem gl_RX9_65 : Cond.methodLink RX9 65 yJ9_min_7cf53 ∈ gtbl := gk_29.2.2.2.2.2.2.2.2.2.1
set_option maxRecDepth 100000 in
theorem gl_RX9_68 : Cond.methodLink RX9 68 yX9_addLoads ∈ gtbl := gk_29.2.2.2.2.2.2.2.2.2.2.2.2.2.2.1
set_option maxRecDepth 100000 in
theorem gn_X9_addLoads : Cond.instanceMethod yX9_addLoads ∈ gtbl := gk_29.2.2.2.2.2.2.2.2.2.2.2.2.2.2.2.1
set_option maxRecDepth 100000 in
theorem gs_X9_addLoads : Cond.selects (fR 9) yX9_addLoads yX9_addLoads ∈ gtbl := gk_2.2.2.2.2.1
set_option maxRecDepth 100000 in
theorem gp1_X9_addLoads : (parseMethodDescriptor yX9_addLoads.desc).map (fun d => d.parameters.length + 1) = some 3 := by decide +kernel
set_option maxRecDepth 100000 in
theorem gc_X9_addLoads : Cond.code yX9_addLoads cX9_addLoads 5 none ∈ gtbl := gk_30.1
set_option maxRecDepth 100000 in
theorem gi_X9_addLoads : Cond.initialized yX9_addLoads.cls ∈ gtbl := gi_X9_init
set_option maxRecDepth 100000 in
theorem gh_X9_addLoads : yX9_addLoads.cls ≠ "java/lang/invoke/MethodHandle" ∧ yX9_addLoads.cls ≠ "java/lang/invoke/VarHandle" := gh_X9_init
set_option maxRecDepth 100000 in
theorem gl_RX9_72 : Cond.methodLink RX9 72 yX9_isTooSlow ∈ gtbl := gk_30.2.1
set_option maxRecDepth 100000 in
theorem gn_X9_isTooSlow : Cond.instanceMethod yX9_isTooSlow ∈ gtbl := gk_30.2.2.1
set_option maxRecDepth 100000 in
theorem gs_X9_isTooSlow : Cond.selects (fR 9) yX9_isTooSlow yX9_isTooSlow ∈ gtbl := gk_2.2.2.2.2.2.1
set_option maxRecDepth 100000 in
theorem gp1_X9_isTooSlow : (parseMethodDescriptor yX9_isTooSlow.desc).map (fun d => d.parameters.length + 1) = some 3 := gp1_X7_isGap
set_option maxRecDepth 100000 in
theorem gc_X9_isTooSlow : Cond.code yX9_isTooSlow cX9_isTooSlow 4 (some .boolean) ∈ gtbl := gk_30.2.2.2.1
set_option maxRecDepth 100000 in
theorem gi_X9_isTooSlow : Cond.initialized yX9_isTooSlow.cls ∈ gtbl := gi_X9_init
set_option maxRecDepth 100000 in
theorem gh_X9_isTooSlow : yX9_isTooSlow.cls ≠ "java/lang/invoke/MethodHandle" ∧ yX9_isTooSlow.cls ≠ "java/lang/invoke/VarHandle" := gh_X9_init
set_option maxRecDepth 100000 in
theorem gl_RX9_76 : Cond.methodLink RX9 76 yX9_reach ∈ gtbl := gk_30.2.2.2.2.1
set_option maxRecDepth 100000 in
theorem gn_X9_reach : Cond.instanceMethod yX9_reach ∈ gtbl := gk_27.2.2.2.2.2.2.2.2.2.1
set_option maxRecDepth 100000 in
theorem gs_X9_reach : Cond.selects (fR 9) yX9_reach yX9_reach ∈ gtbl := gk_27.2.2.2.2.2.2.2.2.2.2.1
set_option maxRecDepth 100000 in
theorem gp1_X9_reach : (parseMethodDescriptor yX9_reach.desc).map (fun d => d.parameters.length + 1) = some 4 := gp1_X9_work
set_option maxRecDepth 100000 in
theorem gc_X9_reach : Cond.code yX9_reach cX9_reach 5 none ∈ gtbl := gk_27.2.2.2.2.2.2.2.2.2.2.2.1
set_option maxRecDepth 100000 in
theorem gi_X9_reach : Cond.initialized yX9_reach.cls ∈ gtbl := gi_X9_init
set_option maxRecDepth 100000 in
theorem gh_X9_reach : yX9_reach.cls ≠ "java/lang/invoke/MethodHandle" ∧ yX9_reach.cls ≠ "java/lang/invoke/VarHandle" := gh_X9_init
set_option maxRecDepth 100000 in
theorem gl_RX9_79 : Cond.methodLink RX9 79 yX9_lastMinute ∈ gtbl := gk_30.2.2.2.2.2.1
set_option maxRecDepth 100000 in
theorem gl_RX10_9 : Cond.methodLink RX10 9 yX3_init ∈ gtbl := gk_5.2.2.2.2.2.2.2.2.1
set_option maxRecDepth 100000 in
theorem gn_X3_init : Cond.instanceMethod yX3_init ∈ gtbl := gk_5.2.2.2.2.2.2.2.2.2.1
set_option maxRecDepth 100000 in
theorem gp1_X3_init : (parseMethodDescriptor yX3_init.desc).map (fun d => d.parameters.length + 1) = some 3 := by decide +kernel
set_option maxRecDepth 100000 in
theorem gc_X3_init : Cond.code yX3_init cX3_init 3 none ∈ gtbl := gk_5.2.2.2.2.2.2.2.2.2.2.1
set_option maxRecDepth 100000 in
theorem gi_X3_init : Cond.initialized yX3_init.cls ∈ gtbl := gi_X3_beside
set_option maxRecDepth 100000 in
theorem gh_X3_init : yX3_init.cls ≠ "java/lang/invoke/MethodHandle" ∧ yX3_init.cls ≠ "java/lang/invoke/VarHandle" := gh_X3_beside
set_option maxRecDepth 100000 in
theorem gn_X6_init : Cond.instanceMethod yX6_init ∈ gtbl := gk_6.2.2.2.2.2.2.2.2.1
set_option maxRecDepth 100000 in
theorem gp1_X6_init : (parseMethodDescriptor yX6_init.desc).map (fun d => d.parameters.length + 1) = some 1 := gp1_X1_clearTold
set_option maxRecDepth 100000 in
theorem gc_X6_init : Cond.code yX6_init cX6_init 1 none ∈ gtbl := gk_6.2.2.2.2.2.2.2.2.2.1
set_option maxRecDepth 100000 in
theorem gi_X6_init : Cond.initialized yX6_init.cls ∈ gtbl := gi_X6_readLine
set_option maxRecDepth 100000 in
theorem gh_X6_init : yX6_init.cls ≠ "java/lang/invoke/MethodHandle" ∧ yX6_init.cls ≠ "java/lang/invoke/VarHandle" := gh_X6_readLine
set_option maxRecDepth 100000 in
theorem gl_RX10_30 : Cond.methodLink RX10 30 yX7_init ∈ gtbl := gk_7.2.1
set_option maxRecDepth 100000 in
theorem gn_X7_init : Cond.instanceMethod yX7_init ∈ gtbl := gk_7.2.2.1
set_option maxRecDepth 100000 in
theorem gp1_X7_init : (parseMethodDescriptor yX7_init.desc).map (fun d => d.parameters.length + 1) = some 1 := gp1_X1_clearTold
set_option maxRecDepth 100000 in
theorem gc_X7_init : Cond.code yX7_init cX7_init 1 none ∈ gtbl := gk_7.2.2.2.1
set_option maxRecDepth 100000 in
theorem gi_X7_init : Cond.initialized yX7_init.cls ∈ gtbl := gi_X7_slipped
set_option maxRecDepth 100000 in
theorem gh_X7_init : yX7_init.cls ≠ "java/lang/invoke/MethodHandle" ∧ yX7_init.cls ≠ "java/lang/invoke/VarHandle" := gh_X7_slipped
set_option maxRecDepth 100000 in
theorem gl_RX10_41 : Cond.methodLink RX10 41 yX0_init ∈ gtbl := gk_7.2.2.2.2.2.2.2.2.2.1
set_option maxRecDepth 100000 in
theorem gn_X0_init : Cond.instanceMethod yX0_init ∈ gtbl := gk_7.2.2.2.2.2.2.2.2.2.2.1
set_option maxRecDepth 100000 in
theorem gp1_X0_init : (parseMethodDescriptor yX0_init.desc).map (fun d => d.parameters.length + 1) = some 3 := by decide +kernel
set_option maxRecDepth 100000 in
theorem gc_X0_init : Cond.code yX0_init cX0_init 3 none ∈ gtbl := gk_7.2.2.2.2.2.2.2.2.2.2.2.1
set_option maxRecDepth 100000 in
theorem gi_X0_init : Cond.initialized yX0_init.cls ∈ gtbl := gi_X0_takeFirsts
set_option maxRecDepth 100000 in
theorem gh_X0_init : yX0_init.cls ≠ "java/lang/invoke/MethodHandle" ∧ yX0_init.cls ≠ "java/lang/invoke/VarHandle" := gh_X0_takeFirsts
set_option maxRecDepth 100000 in
theorem gn_X4_init : Cond.instanceMethod yX4_init ∈ gtbl := gk_7.2.2.2.2.2.2.2.2.2.2.2.2.2.2.1
set_option maxRecDepth 100000 in
theorem gp1_X4_init : (parseMethodDescriptor yX4_init.desc).map (fun d => d.parameters.length + 1) = some 1 := gp1_X1_clearTold
set_option maxRecDepth 100000 in
theorem gc_X4_init : Cond.code yX4_init cX4_init 1 none ∈ gtbl := gk_7.2.2.2.2.2.2.2.2.2.2.2.2.2.2.2.1
set_option maxRecDepth 100000 in
theorem gi_X4_init : Cond.initialized yX4_init.cls ∈ gtbl := gi_X4_markGaps
set_option maxRecDepth 100000 in
theorem gh_X4_init : yX4_init.cls ≠ "java/lang/invoke/MethodHandle" ∧ yX4_init.cls ≠ "java/lang/invoke/VarHandle" := gh_X4_markGaps
set_option maxRecDepth 100000 in
theorem gl_RX10_66 : Cond.methodLink RX10 66 yX1_init ∈ gtbl := gk_8.1
set_option maxRecDepth 100000 in
theorem gn_X1_init : Cond.instanceMethod yX1_init ∈ gtbl := gk_8.2.1
set_option maxRecDepth 100000 in
theorem gp1_X1_init : (parseMethodDescriptor yX1_init.desc).map (fun d => d.parameters.length + 1) = some 1 := gp1_X1_clearTold
set_option maxRecDepth 100000 in
theorem gc_X1_init : Cond.code yX1_init cX1_init 1 none ∈ gtbl := gk_8.2.2.1
set_option maxRecDepth 100000 in
theorem gi_X1_init : Cond.initialized yX1_init.cls ∈ gtbl := gi_X1_clearTold
set_option maxRecDepth 100000 in
theorem gh_X1_init : yX1_init.cls ≠ "java/lang/invoke/MethodHandle" ∧ yX1_init.cls ≠ "java/lang/invoke/VarHandle" := gh_X1_clearTold
set_option maxRecDepth 100000 in
theorem gl_RX10_73 : Cond.methodLink RX10 73 yX2_init ∈ gtbl := gk_8.2.2.2.2.2.2.2.1
set_option maxRecDepth 100000 in
theorem gn_X2_init : Cond.instanceMethod yX2_init ∈ gtbl := gk_8.2.2.2.2.2.2.2.2.1
set_option maxRecDepth 100000 in
theorem gp1_X2_init : (parseMethodDescriptor yX2_init.desc).map (fun d => d.parameters.length + 1) = some 1 := gp1_X1_clearTold
set_option maxRecDepth 100000 in
theorem gc_X2_init : Cond.code yX2_init cX2_init 2 none ∈ gtbl := gk_8.2.2.2.2.2.2.2.2.2.1
set_option maxRecDepth 100000 in
theorem gi_X2_init : Cond.initialized yX2_init.cls ∈ gtbl := gi_X2_paceOf
set_option maxRecDepth 100000 in
theorem gh_X2_init : yX2_init.cls ≠ "java/lang/invoke/MethodHandle" ∧ yX2_init.cls ≠ "java/lang/invoke/VarHandle" := gh_X2_paceOf
set_option maxRecDepth 100000 in
theorem gn_X8_init : Cond.instanceMethod yX8_init ∈ gtbl := gk_8.2.2.2.2.2.2.2.2.2.2.2.2.1
set_option maxRecDepth 100000 in
theorem gp1_X8_init : (parseMethodDescriptor yX8_init.desc).map (fun d => d.parameters.length + 1) = some 1 := gp1_X1_clearTold
set_option maxRecDepth 100000 in
theorem gc_X8_init : Cond.code yX8_init cX8_init 1 none ∈ gtbl := gk_8.2.2.2.2.2.2.2.2.2.2.2.2.2.1
set_option maxRecDepth 100000 in
theorem gi_X8_init : Cond.initialized yX8_init.cls ∈ gtbl := gi_X8_take
set_option maxRecDepth 100000 in
theorem gh_X8_init : yX8_init.cls ≠ "java/lang/invoke/MethodHandle" ∧ yX8_init.cls ≠ "java/lang/invoke/VarHandle" := gh_X8_take
set_option maxRecDepth 100000 in
theorem gl_RX10_96 : Cond.methodLink RX10 96 yX3_shape ∈ gtbl := gk_8.2.2.2.2.2.2.2.2.2.2.2.2.2.2.1
set_option maxRecDepth 100000 in
theorem gl_RX10_100 : Cond.methodLink RX10 100 yX7_clearFirsts ∈ gtbl := gk_8.2.2.2.2.2.2.2.2.2.2.2.2.2.2.2.1
set_option maxRecDepth 100000 in
theorem gl_RX10_109 : Cond.methodLink RX10 109 yX1_clearTold ∈ gtbl := gk_9.1
set_option maxRecDepth 100000 in
theorem gl_RX10_112 : Cond.methodLink RX10 112 yX9_giveAllToFirst ∈ gtbl := gk_9.2.1
set_option maxRecDepth 100000 in
theorem gn_X9_giveAllToFirst : Cond.instanceMethod yX9_giveAllToFirst ∈ gtbl := gk_9.2.2.1
set_option maxRecDepth 100000 in
theorem gs_X9_giveAllToFirst : Cond.selects (fR 9) yX9_giveAllToFirst yX9_giveAllToFirst ∈ gtbl := gk_9.2.2.2.1
set_option maxRecDepth 100000 in
theorem gp1_X9_giveAllToFirst : (parseMethodDescriptor yX9_giveAllToFirst.desc).map (fun d => d.parameters.length + 1) = some 1 := gp1_X1_clearTold
set_option maxRecDepth 100000 in
theorem gc_X9_giveAllToFirst : Cond.code yX9_giveAllToFirst cX9_giveAllToFirst 2 none ∈ gtbl := gk_9.2.2.2.2.1
set_option maxRecDepth 100000 in
theorem gi_X9_giveAllToFirst : Cond.initialized yX9_giveAllToFirst.cls ∈ gtbl := gi_X9_init
set_option maxRecDepth 100000 in
theorem gh_X9_giveAllToFirst : yX9_giveAllToFirst.cls ≠ "java/lang/invoke/MethodHandle" ∧ yX9_giveAllToFirst.cls ≠ "java/lang/invoke/VarHandle" := gh_X9_init
set_option maxRecDepth 100000 in
theorem gl_RX10_115 : Cond.methodLink RX10 115 yX10_forgetNumbers ∈ gtbl := gk_9.2.2.2.2.2.2.2.2.2.1
set_option maxRecDepth 100000 in
theorem gn_X10_forgetNumbers : Cond.instanceMethod yX10_forgetNumbers ∈ gtbl := gk_9.2.2.2.2.2.2.2.2.2.2.1
set_option maxRecDepth 100000 in
theorem gs_X10_forgetNumbers : Cond.selects (fR 10) yX10_forgetNumbers yX10_forgetNumbers ∈ gtbl := gk_0.2.1
set_option maxRecDepth 100000 in
theorem gp1_X10_forgetNumbers : (parseMethodDescriptor yX10_forgetNumbers.desc).map (fun d => d.parameters.length + 1) = some 1 := gp1_X1_clearTold
set_option maxRecDepth 100000 in
theorem gc_X10_forgetNumbers : Cond.code yX10_forgetNumbers cX10_forgetNumbers 1 none ∈ gtbl := gk_9.2.2.2.2.2.2.2.2.2.2.2.1
set_option maxRecDepth 100000 in
theorem gi_X10_forgetNumbers : Cond.initialized yX10_forgetNumbers.cls ∈ gtbl := gi_X10_isLetter
set_option maxRecDepth 100000 in
theorem gh_X10_forgetNumbers : yX10_forgetNumbers.cls ≠ "java/lang/invoke/MethodHandle" ∧ yX10_forgetNumbers.cls ≠ "java/lang/invoke/VarHandle" := gh_X10_isLetter
set_option maxRecDepth 100000 in
theorem gl_RX10_118 : Cond.methodLink RX10 118 yX10_forgetTimes ∈ gtbl := gk_10.2.2.2.2.2.2.2.1
set_option maxRecDepth 100000 in
theorem gn_X10_forgetTimes : Cond.instanceMethod yX10_forgetTimes ∈ gtbl := gk_10.2.2.2.2.2.2.2.2.1
set_option maxRecDepth 100000 in
theorem gs_X10_forgetTimes : Cond.selects (fR 10) yX10_forgetTimes yX10_forgetTimes ∈ gtbl := gk_0.2.2.2.1
set_option maxRecDepth 100000 in
theorem gp1_X10_forgetTimes : (parseMethodDescriptor yX10_forgetTimes.desc).map (fun d => d.parameters.length + 1) = some 1 := gp1_X1_clearTold
set_option maxRecDepth 100000 in
theorem gc_X10_forgetTimes : Cond.code yX10_forgetTimes cX10_forgetTimes 1 none ∈ gtbl := gk_10.2.2.2.2.2.2.2.2.2.1
set_option maxRecDepth 100000 in
theorem gi_X10_forgetTimes : Cond.initialized yX10_forgetTimes.cls ∈ gtbl := gi_X10_isLetter
set_option maxRecDepth 100000 in
theorem gh_X10_forgetTimes : yX10_forgetTimes.cls ≠ "java/lang/invoke/MethodHandle" ∧ yX10_forgetTimes.cls ≠ "java/lang/invoke/VarHandle" := gh_X10_isLetter
set_option maxRecDepth 100000 in
theorem gl_RX10_124 : Cond.methodLink RX10 124 yX10_reshape ∈ gtbl := gk_10.2.2.2.2.2.2.2.2.2.2.2.2.2.2.2.1
set_option maxRecDepth 100000 in
theorem gn_X10_reshape : Cond.instanceMethod yX10_reshape ∈ gtbl := gk_11.1
set_option maxRecDepth 100000 in
theorem gs_X10_reshape : Cond.selects (fR 10) yX10_reshape yX10_reshape ∈ gtbl := gk_0.2.2.2.2.1
set_option maxRecDepth 100000 in
theorem gp1_X10_reshape : (parseMethodDescriptor yX10_reshape.desc).map (fun d => d.parameters.length + 1) = some 1 := gp1_X1_clearTold
set_option maxRecDepth 100000 in
theorem gc_X10_reshape : Cond.code yX10_reshape cX10_reshape 1 none ∈ gtbl := gk_11.2.1
set_option maxRecDepth 100000 in
theorem gi_X10_reshape : Cond.initialized yX10_reshape.cls ∈ gtbl := gi_X10_isLetter
set_option maxRecDepth 100000 in
theorem gh_X10_reshape : yX10_reshape.cls ≠ "java/lang/invoke/MethodHandle" ∧ yX10_reshape.cls ≠ "java/lang/invoke/VarHandle" := gh_X10_isLetter
set_option maxRecDepth 100000 in
theorem gl_RX10_130 : Cond.methodLink RX10 130 yX10_isLetter ∈ gtbl := gk_11.2.2.1
set_option maxRecDepth 100000 in
theorem gl_RX10_134 : Cond.methodLink RX10 134 yX10_isTold ∈ gtbl := gk_11.2.2.2.2.2.1
set_option maxRecDepth 100000 in
theorem gt_X10_isTold : Cond.static yX10_isTold ∈ gtbl := gk_11.2.2.2.2.2.2.1
set_option maxRecDepth 100000 in
theorem gp0_X10_isTold : (parseMethodDescriptor yX10_isTold.desc).map (fun d => d.parameters.length) = some 1 := gp0_X5_isNow
set_option maxRecDepth 100000 in
theorem gc_X10_isTold : Cond.code yX10_isTold cX10_isTold 1 (some .boolean) ∈ gtbl := gk_11.2.2.2.2.2.2.2.1
set_option maxRecDepth 100000 in
theorem gi_X10_isTold : Cond.initialized yX10_isTold.cls ∈ gtbl := gi_X10_isLetter
set_option maxRecDepth 100000 in
theorem gh_X10_isTold : yX10_isTold.cls ≠ "java/lang/invoke/MethodHandle" ∧ yX10_isTold.cls ≠ "java/lang/invoke/VarHandle" := gh_X10_isLetter
set_option maxRecDepth 100000 in
theorem gl_RX10_145 : Cond.methodLink RX10 145 yX6_append ∈ gtbl := gk_11.2.2.2.2.2.2.2.2.1
set_option maxRecDepth 100000 in
theorem gn_X6_append : Cond.instanceMethod yX6_append ∈ gtbl := gk_11.2.2.2.2.2.2.2.2.2.1
set_option maxRecDepth 100000 in
theorem gs_X6_append : Cond.selects (fR 6) yX6_append yX6_append ∈ gtbl := gk_11.2.2.2.2.2.2.2.2.2.2.1
set_option maxRecDepth 100000 in
theorem gp1_X6_append : (parseMethodDescriptor yX6_append.desc).map (fun d => d.parameters.length + 1) = some 2 := gp1_X1_findEvenSets
set_option maxRecDepth 100000 in
theorem gc_X6_append : Cond.code yX6_append cX6_append 2 none ∈ gtbl := gk_11.2.2.2.2.2.2.2.2.2.2.2.1
set_option maxRecDepth 100000 in
theorem gi_X6_append : Cond.initialized yX6_append.cls ∈ gtbl := gi_X6_readLine
set_option maxRecDepth 100000 in
theorem gh_X6_append : yX6_append.cls ≠ "java/lang/invoke/MethodHandle" ∧ yX6_append.cls ≠ "java/lang/invoke/VarHandle" := gh_X6_readLine
set_option maxRecDepth 100000 in
theorem gl_RX10_149 : Cond.methodLink RX10 149 yX6_read ∈ gtbl := gk_11.2.2.2.2.2.2.2.2.2.2.2.2.1
set_option maxRecDepth 100000 in
theorem gn_X6_read : Cond.instanceMethod yX6_read ∈ gtbl := gk_11.2.2.2.2.2.2.2.2.2.2.2.2.2.1
set_option maxRecDepth 100000 in
theorem gs_X6_read : Cond.selects (fR 6) yX6_read yX6_read ∈ gtbl := gk_11.2.2.2.2.2.2.2.2.2.2.2.2.2.2.1
set_option maxRecDepth 100000 in
theorem gp1_X6_read : (parseMethodDescriptor yX6_read.desc).map (fun d => d.parameters.length + 1) = some 1 := gp1_X6_ahead
set_option maxRecDepth 100000 in
theorem gc_X6_read : Cond.code yX6_read cX6_read 2 (some .int) ∈ gtbl := gk_11.2.2.2.2.2.2.2.2.2.2.2.2.2.2.2.1
set_option maxRecDepth 100000 in
theorem gi_X6_read : Cond.initialized yX6_read.cls ∈ gtbl := gi_X6_readLine
set_option maxRecDepth 100000 in
theorem gh_X6_read : yX6_read.cls ≠ "java/lang/invoke/MethodHandle" ∧ yX6_read.cls ≠ "java/lang/invoke/VarHandle" := gh_X6_readLine
set_option maxRecDepth 100000 in
theorem gl_RX10_158 : Cond.methodLink RX10 158 yX5_takeAll ∈ gtbl := gk_14.2.2.2.2.2.1
set_option maxRecDepth 100000 in
theorem gl_RX10_180 : Cond.methodLink RX10 180 yX5_hasProduct ∈ gtbl := gk_14.2.2.2.2.2.2.2.2.2.1
set_option maxRecDepth 100000 in
theorem gl_RX10_183 : Cond.methodLink RX10 183 yX10_isCell ∈ gtbl := gk_15.2.2.1
set_option maxRecDepth 100000 in
theorem gn_X10_isCell : Cond.instanceMethod yX10_isCell ∈ gtbl := gk_15.2.2.2.1
set_option maxRecDepth 100000 in
theorem gs_X10_isCell : Cond.selects (fR 10) yX10_isCell yX10_isCell ∈ gtbl := gk_0.2.2.2.2.2.2.2.2.2.2.2.2.2.2.1
set_option maxRecDepth 100000 in
theorem gp1_X10_isCell : (parseMethodDescriptor yX10_isCell.desc).map (fun d => d.parameters.length + 1) = some 2 := gp1_X5_hasProduct
set_option maxRecDepth 100000 in
theorem gc_X10_isCell : Cond.code yX10_isCell cX10_isCell 2 (some .boolean) ∈ gtbl := gk_15.2.2.2.2.1
set_option maxRecDepth 100000 in
theorem gi_X10_isCell : Cond.initialized yX10_isCell.cls ∈ gtbl := gi_X10_isLetter
set_option maxRecDepth 100000 in
theorem gh_X10_isCell : yX10_isCell.cls ≠ "java/lang/invoke/MethodHandle" ∧ yX10_isCell.cls ≠ "java/lang/invoke/VarHandle" := gh_X10_isLetter
set_option maxRecDepth 100000 in
theorem gl_RX10_190 : Cond.methodLink RX10 190 yX10_isStep ∈ gtbl := gk_15.2.2.2.2.2.1
set_option maxRecDepth 100000 in
theorem gt_X10_isStep : Cond.static yX10_isStep ∈ gtbl := gk_15.2.2.2.2.2.2.1
set_option maxRecDepth 100000 in
theorem gp0_X10_isStep : (parseMethodDescriptor yX10_isStep.desc).map (fun d => d.parameters.length) = some 1 := gp0_X5_isNow
set_option maxRecDepth 100000 in
theorem gc_X10_isStep : Cond.code yX10_isStep cX10_isStep 1 (some .boolean) ∈ gtbl := gk_15.2.2.2.2.2.2.2.1
set_option maxRecDepth 100000 in
theorem gi_X10_isStep : Cond.initialized yX10_isStep.cls ∈ gtbl := gi_X10_isLetter
set_option maxRecDepth 100000 in
theorem gh_X10_isStep : yX10_isStep.cls ≠ "java/lang/invoke/MethodHandle" ∧ yX10_isStep.cls ≠ "java/lang/invoke/VarHandle" := gh_X10_isLetter
set_option maxRecDepth 100000 in
theorem gl_RX10_194 : Cond.methodLink RX10 194 yX10_reckoned ∈ gtbl := gk_15.2.2.2.2.2.2.2.2.1
set_option maxRecDepth 100000 in
theorem gn_X10_reckoned : Cond.instanceMethod yX10_reckoned ∈ gtbl := gk_15.2.2.2.2.2.2.2.2.2.1
set_option maxRecDepth 100000 in
theorem gs_X10_reckoned : Cond.selects (fR 10) yX10_reckoned yX10_reckoned ∈ gtbl := gk_0.2.2.2.2.2.2.2.2.2.2.2.2.2.2.2.1
set_option maxRecDepth 100000 in
theorem gp1_X10_reckoned : (parseMethodDescriptor yX10_reckoned.desc).map (fun d => d.parameters.length + 1) = some 3 := by decide +kernel
set_option maxRecDepth 100000 in
theorem gc_X10_reckoned : Cond.code yX10_reckoned cX10_reckoned 4 (some (.object "ForecastHall$Board")) ∈ gtbl := gk_15.2.2.2.2.2.2.2.2.2.2.1
set_option maxRecDepth 100000 in
theorem gi_X10_reckoned : Cond.initialized yX10_reckoned.cls ∈ gtbl := gi_X10_isLetter
set_option maxRecDepth 100000 in
theorem gh_X10_reckoned : yX10_reckoned.cls ≠ "java/lang/invoke/MethodHandle" ∧ yX10_reckoned.cls ≠ "java/lang/invoke/VarHandle" := gh_X10_isLetter
set_option maxRecDepth 100000 in
theorem gl_RX10_198 : Cond.methodLink RX10 198 yX0_number ∈ gtbl := gk_20.2.1
set_option maxRecDepth 100000 in
theorem gl_RX10_202 : Cond.methodLink RX10 202 yX4_reach ∈ gtbl := gk_20.2.2.1
set_option maxRecDepth 100000 in
theorem gn_X4_reach : Cond.instanceMethod yX4_reach ∈ gtbl := gk_20.2.2.2.1
set_option maxRecDepth 100000 in
theorem gs_X4_reach : Cond.selects (fR 4) yX4_reach yX4_reach ∈ gtbl := gk_20.2.2.2.2.1
set_option maxRecDepth 100000 in
theorem gp1_X4_reach : (parseMethodDescriptor yX4_reach.desc).map (fun d => d.parameters.length + 1) = some 4 := by decide +kernel
set_option maxRecDepth 100000 in
theorem gc_X4_reach : Cond.code yX4_reach cX4_reach 7 none ∈ gtbl := gk_20.2.2.2.2.2.1
set_option maxRecDepth 100000 in
theorem gi_X4_reach : Cond.initialized yX4_reach.cls ∈ gtbl := gi_X4_markGaps
set_option maxRecDepth 100000 in
theorem gh_X4_reach : yX4_reach.cls ≠ "java/lang/invoke/MethodHandle" ∧ yX4_reach.cls ≠ "java/lang/invoke/VarHandle" := gh_X4_markGaps
set_option maxRecDepth 100000 in
theorem gl_RX10_206 : Cond.methodLink RX10 206 yX4_has ∈ gtbl := gk_21.2.2.2.2.2.2.2.2.2.2.2.2.2.2.2.1
set_option maxRecDepth 100000 in
theorem gl_RX10_215 : Cond.methodLink RX10 215 yX0_rowSum ∈ gtbl := gk_22.1
set_option maxRecDepth 100000 in
theorem gl_RX10_219 : Cond.methodLink RX10 219 yX10_isLaterStep ∈ gtbl := gk_22.2.2.2.2.2.2.2.1
set_option maxRecDepth 100000 in
theorem gt_X10_isLaterStep : Cond.static yX10_isLaterStep ∈ gtbl := gk_22.2.2.2.2.2.2.2.2.1
set_option maxRecDepth 100000 in
theorem gp0_X10_isLaterStep : (parseMethodDescriptor yX10_isLaterStep.desc).map (fun d => d.parameters.length) = some 1 := gp0_X5_isNow
set_option maxRecDepth 100000 in
theorem gc_X10_isLaterStep : Cond.code yX10_isLaterStep cX10_isLaterStep 1 (some .boolean) ∈ gtbl := gk_22.2.2.2.2.2.2.2.2.2.1
set_option maxRecDepth 100000 in
theorem gi_X10_isLaterStep : Cond.initialized yX10_isLaterStep.cls ∈ gtbl := gi_X10_isLetter
set_option maxRecDepth 100000 in
theorem gh_X10_isLaterStep : yX10_isLaterStep.cls ≠ "java/lang/invoke/MethodHandle" ∧ yX10_isLaterStep.cls ≠ "java/lang/invoke/VarHandle" := gh_X10_isLetter
set_option maxRecDepth 100000 in
theorem gl_RX10_222 : Cond.methodLink RX10 222 yX7_addSlip ∈ gtbl := gk_22.2.2.2.2.2.2.2.2.2.2.1
set_option maxRecDepth 100000 in
theorem gn_X7_addSlip : Cond.instanceMethod yX7_addSlip ∈ gtbl := gk_22.2.2.2.2.2.2.2.2.2.2.2.1
set_option maxRecDepth 100000 in
theorem gs_X7_addSlip : Cond.selects (fR 7) yX7_addSlip yX7_addSlip ∈ gtbl := gk_22.2.2.2.2.2.2.2.2.2.2.2.2.1
set_option maxRecDepth 100000 in
theorem gp1_X7_addSlip : (parseMethodDescriptor yX7_addSlip.desc).map (fun d => d.parameters.length + 1) = some 5 := gp1_X0_set
set_option maxRecDepth 100000 in
theorem gc_X7_addSlip : Cond.code yX7_addSlip cX7_addSlip 5 none ∈ gtbl := gk_22.2.2.2.2.2.2.2.2.2.2.2.2.2.1
set_option maxRecDepth 100000 in
theorem gi_X7_addSlip : Cond.initialized yX7_addSlip.cls ∈ gtbl := gi_X7_slipped
set_option maxRecDepth 100000 in
theorem gh_X7_addSlip : yX7_addSlip.cls ≠ "java/lang/invoke/MethodHandle" ∧ yX7_addSlip.cls ≠ "java/lang/invoke/VarHandle" := gh_X7_slipped
set_option maxRecDepth 100000 in
theorem gl_RX10_226 : Cond.methodLink RX10 226 yX10_forgetSlips ∈ gtbl := gk_10.2.2.2.2.1
set_option maxRecDepth 100000 in
theorem gn_X10_forgetSlips : Cond.instanceMethod yX10_forgetSlips ∈ gtbl := gk_10.2.2.2.2.2.1
set_option maxRecDepth 100000 in
theorem gs_X10_forgetSlips : Cond.selects (fR 10) yX10_forgetSlips yX10_forgetSlips ∈ gtbl := gk_0.2.2.1
set_option maxRecDepth 100000 in
theorem gp1_X10_forgetSlips : (parseMethodDescriptor yX10_forgetSlips.desc).map (fun d => d.parameters.length + 1) = some 1 := gp1_X1_clearTold
set_option maxRecDepth 100000 in
theorem gc_X10_forgetSlips : Cond.code yX10_forgetSlips cX10_forgetSlips 1 none ∈ gtbl := gk_10.2.2.2.2.2.2.1
set_option maxRecDepth 100000 in
theorem gi_X10_forgetSlips : Cond.initialized yX10_forgetSlips.cls ∈ gtbl := gi_X10_isLetter
set_option maxRecDepth 100000 in
theorem gh_X10_forgetSlips : yX10_forgetSlips.cls ≠ "java/lang/invoke/MethodHandle" ∧ yX10_forgetSlips.cls ≠ "java/lang/invoke/VarHandle" := gh_X10_isLetter
set_option maxRecDepth 100000 in
theorem gl_RX10_229 : Cond.methodLink RX10 229 yX10_reckonWithout ∈ gtbl := gk_22.2.2.2.2.2.2.2.2.2.2.2.2.2.2.1
set_option maxRecDepth 100000 in
theorem gn_X10_reckonWithout : Cond.instanceMethod yX10_reckonWithout ∈ gtbl := gk_22.2.2.2.2.2.2.2.2.2.2.2.2.2.2.2.1
set_option maxRecDepth 100000 in
theorem gs_X10_reckonWithout : Cond.selects (fR 10) yX10_reckonWithout yX10_reckonWithout ∈ gtbl := gk_1.2.2.2.2.2.2.2.2.2.1
set_option maxRecDepth 100000 in
theorem gp1_X10_reckonWithout : (parseMethodDescriptor yX10_reckonWithout.desc).map (fun d => d.parameters.length + 1) = some 3 := gp1_X3_init
set_option maxRecDepth 100000 in
theorem gc_X10_reckonWithout : Cond.code yX10_reckonWithout cX10_reckonWithout 3 none ∈ gtbl := gk_23.1
set_option maxRecDepth 100000 in
theorem gi_X10_reckonWithout : Cond.initialized yX10_reckonWithout.cls ∈ gtbl := gi_X10_isLetter
set_option maxRecDepth 100000 in
theorem gh_X10_reckonWithout : yX10_reckonWithout.cls ≠ "java/lang/invoke/MethodHandle" ∧ yX10_reckonWithout.cls ≠ "java/lang/invoke/VarHandle" := gh_X10_isLetter
set_option maxRecDepth 100000 in
theorem gl_RX10_232 : Cond.methodLink RX10 232 yX10_otherwiseUpTo ∈ gtbl := gk_23.2.1
set_option maxRecDepth 100000 in
theorem gn_X10_otherwiseUpTo : Cond.instanceMethod yX10_otherwiseUpTo ∈ gtbl := gk_23.2.2.1
set_option maxRecDepth 100000 in
theorem gs_X10_otherwiseUpTo : Cond.selects (fR 10) yX10_otherwiseUpTo yX10_otherwiseUpTo ∈ gtbl := gk_1.2.2.2.2.2.2.2.2.2.2.1
set_option maxRecDepth 100000 in
theorem gp1_X10_otherwiseUpTo : (parseMethodDescriptor yX10_otherwiseUpTo.desc).map (fun d => d.parameters.length + 1) = some 2 := gp1_X5_end
set_option maxRecDepth 100000 in
theorem gc_X10_otherwiseUpTo : Cond.code yX10_otherwiseUpTo cX10_otherwiseUpTo 4 (some .int) ∈ gtbl := gk_23.2.2.2.1
set_option maxRecDepth 100000 in
theorem gi_X10_otherwiseUpTo : Cond.initialized yX10_otherwiseUpTo.cls ∈ gtbl := gi_X10_isLetter
set_option maxRecDepth 100000 in
theorem gh_X10_otherwiseUpTo : yX10_otherwiseUpTo.cls ≠ "java/lang/invoke/MethodHandle" ∧ yX10_otherwiseUpTo.cls ≠ "java/lang/invoke/VarHandle" := gh_X10_isLetter
set_option maxRecDepth 100000 in
theorem gl_RX10_236 : Cond.methodLink RX10 236 yX10_lastOtherwise ∈ gtbl := gk_23.2.2.2.2.2.2.2.1
set_option maxRecDepth 100000 in
theorem gn_X10_lastOtherwise : Cond.instanceMethod yX10_lastOtherwise ∈ gtbl := gk_23.2.2.2.2.2.2.2.2.1
set_option maxRecDepth 100000 in
theorem gs_X10_lastOtherwise : Cond.selects (fR 10) yX10_lastOtherwise yX10_lastOtherwise ∈ gtbl := gk_1.2.2.2.2.2.2.2.2.2.2.2.2.1
set_option maxRecDepth 100000 in
theorem gp1_X10_lastOtherwise : (parseMethodDescriptor yX10_lastOtherwise.desc).map (fun d => d.parameters.length + 1) = some 2 := gp1_X5_end
set_option maxRecDepth 100000 in
theorem gc_X10_lastOtherwise : Cond.code yX10_lastOtherwise cX10_lastOtherwise 3 (some .int) ∈ gtbl := gk_23.2.2.2.2.2.2.2.2.2.1
set_option maxRecDepth 100000 in
theorem gi_X10_lastOtherwise : Cond.initialized yX10_lastOtherwise.cls ∈ gtbl := gi_X10_isLetter
set_option maxRecDepth 100000 in
theorem gh_X10_lastOtherwise : yX10_lastOtherwise.cls ≠ "java/lang/invoke/MethodHandle" ∧ yX10_lastOtherwise.cls ≠ "java/lang/invoke/VarHandle" := gh_X10_isLetter
set_option maxRecDepth 100000 in
theorem gl_RX10_239 : Cond.methodLink RX10 239 yX10_otherwiseIn ∈ gtbl := gk_23.2.2.2.2.1
set_option maxRecDepth 100000 in
theorem gn_X10_otherwiseIn : Cond.instanceMethod yX10_otherwiseIn ∈ gtbl := gk_23.2.2.2.2.2.1
set_option maxRecDepth 100000 in
theorem gs_X10_otherwiseIn : Cond.selects (fR 10) yX10_otherwiseIn yX10_otherwiseIn ∈ gtbl := gk_1.2.2.2.2.2.2.2.2.2.2.2.1
set_option maxRecDepth 100000 in
theorem gp1_X10_otherwiseIn : (parseMethodDescriptor yX10_otherwiseIn.desc).map (fun d => d.parameters.length + 1) = some 2 := gp1_X5_end
set_option maxRecDepth 100000 in
theorem gc_X10_otherwiseIn : Cond.code yX10_otherwiseIn cX10_otherwiseIn 5 (some .int) ∈ gtbl := gk_23.2.2.2.2.2.2.1
set_option maxRecDepth 100000 in
theorem gi_X10_otherwiseIn : Cond.initialized yX10_otherwiseIn.cls ∈ gtbl := gi_X10_isLetter
set_option maxRecDepth 100000 in
theorem gh_X10_otherwiseIn : yX10_otherwiseIn.cls ≠ "java/lang/invoke/MethodHandle" ∧ yX10_otherwiseIn.cls ≠ "java/lang/invoke/VarHandle" := gh_X10_isLetter
set_option maxRecDepth 100000 in
theorem gl_RX10_242 : Cond.methodLink RX10 242 yX5_keepsSum ∈ gtbl := gk_23.2.2.2.2.2.2.2.2.2.2.1
set_option maxRecDepth 100000 in
theorem gn_X5_keepsSum : Cond.instanceMethod yX5_keepsSum ∈ gtbl := gk_23.2.2.2.2.2.2.2.2.2.2.2.1
set_option maxRecDepth 100000 in
theorem gs_X5_keepsSum : Cond.selects (fR 5) yX5_keepsSum yX5_keepsSum ∈ gtbl := gk_23.2.2.2.2.2.2.2.2.2.2.2.2.1
set_option maxRecDepth 100000 in
theorem gp1_X5_keepsSum : (parseMethodDescriptor yX5_keepsSum.desc).map (fun d => d.parameters.length + 1) = some 2 := gp1_X5_hasProduct
set_option maxRecDepth 100000 in
theorem gc_X5_keepsSum : Cond.code yX5_keepsSum cX5_keepsSum 4 (some .boolean) ∈ gtbl := gk_23.2.2.2.2.2.2.2.2.2.2.2.2.2.1
set_option maxRecDepth 100000 in
theorem gi_X5_keepsSum : Cond.initialized yX5_keepsSum.cls ∈ gtbl := gi_X5_end
set_option maxRecDepth 100000 in
theorem gh_X5_keepsSum : yX5_keepsSum.cls ≠ "java/lang/invoke/MethodHandle" ∧ yX5_keepsSum.cls ≠ "java/lang/invoke/VarHandle" := gh_X5_end
set_option maxRecDepth 100000 in
theorem gl_RX10_245 : Cond.methodLink RX10 245 yX5_staysSmall ∈ gtbl := gk_24.2.1
set_option maxRecDepth 100000 in
theorem gn_X5_staysSmall : Cond.instanceMethod yX5_staysSmall ∈ gtbl := gk_24.2.2.1
set_option maxRecDepth 100000 in
theorem gs_X5_staysSmall : Cond.selects (fR 5) yX5_staysSmall yX5_staysSmall ∈ gtbl := gk_24.2.2.2.1
set_option maxRecDepth 100000 in
theorem gp1_X5_staysSmall : (parseMethodDescriptor yX5_staysSmall.desc).map (fun d => d.parameters.length + 1) = some 2 := gp1_X5_hasProduct
set_option maxRecDepth 100000 in
theorem gc_X5_staysSmall : Cond.code yX5_staysSmall cX5_staysSmall 4 (some .boolean) ∈ gtbl := gk_24.2.2.2.2.1
set_option maxRecDepth 100000 in
theorem gi_X5_staysSmall : Cond.initialized yX5_staysSmall.cls ∈ gtbl := gi_X5_end
set_option maxRecDepth 100000 in
theorem gh_X5_staysSmall : yX5_staysSmall.cls ≠ "java/lang/invoke/MethodHandle" ∧ yX5_staysSmall.cls ≠ "java/lang/invoke/VarHandle" := gh_X5_end
set_option maxRecDepth 100000 in
theorem gl_RX10_257 : Cond.methodLink RX10 257 yX1_keepSum ∈ gtbl := gk_24.2.2.2.2.2.2.2.2.1
set_option maxRecDepth 100000 in
theorem gn_X1_keepSum : Cond.instanceMethod yX1_keepSum ∈ gtbl := gk_24.2.2.2.2.2.2.2.2.2.1
set_option maxRecDepth 100000 in
theorem gs_X1_keepSum : Cond.selects (fR 1) yX1_keepSum yX1_keepSum ∈ gtbl := gk_24.2.2.2.2.2.2.2.2.2.2.1
set_option maxRecDepth 100000 in
theorem gp1_X1_keepSum : (parseMethodDescriptor yX1_keepSum.desc).map (fun d => d.parameters.length + 1) = some 6 := by decide +kernel
set_option maxRecDepth 100000 in
theorem gc_X1_keepSum : Cond.code yX1_keepSum cX1_keepSum 7 none ∈ gtbl := gk_24.2.2.2.2.2.2.2.2.2.2.2.1
set_option maxRecDepth 100000 in
theorem gi_X1_keepSum : Cond.initialized yX1_keepSum.cls ∈ gtbl := gi_X1_clearTold
set_option maxRecDepth 100000 in
theorem gh_X1_keepSum : yX1_keepSum.cls ≠ "java/lang/invoke/MethodHandle" ∧ yX1_keepSum.cls ≠ "java/lang/invoke/VarHandle" := gh_X1_clearTold
set_option maxRecDepth 100000 in
theorem gl_RX10_261 : Cond.methodLink RX10 261 yX1_toldSums ∈ gtbl := gk_24.2.2.2.2.2.2.2.2.2.2.2.2.1
set_option maxRecDepth 100000 in
theorem gn_X1_toldSums : Cond.instanceMethod yX1_toldSums ∈ gtbl := gk_24.2.2.2.2.2.2.2.2.2.2.2.2.2.1
set_option maxRecDepth 100000 in
theorem gs_X1_toldSums : Cond.selects (fR 1) yX1_toldSums yX1_toldSums ∈ gtbl := gk_24.2.2.2.2.2.2.2.2.2.2.2.2.2.2.1
set_option maxRecDepth 100000 in
theorem gp1_X1_toldSums : (parseMethodDescriptor yX1_toldSums.desc).map (fun d => d.parameters.length + 1) = some 1 := gp1_X6_ahead
set_option maxRecDepth 100000 in
theorem gc_X1_toldSums : Cond.code yX1_toldSums cX1_toldSums 3 (some .int) ∈ gtbl := gk_24.2.2.2.2.2.2.2.2.2.2.2.2.2.2.2.1
set_option maxRecDepth 100000 in
theorem gi_X1_toldSums : Cond.initialized yX1_toldSums.cls ∈ gtbl := gi_X1_clearTold
set_option maxRecDepth 100000 in
theorem gh_X1_toldSums : yX1_toldSums.cls ≠ "java/lang/invoke/MethodHandle" ∧ yX1_toldSums.cls ≠ "java/lang/invoke/VarHandle" := gh_X1_clearTold
set_option maxRecDepth 100000 in
theorem gl_RX10_267 : Cond.methodLink RX10 267 yX1_failing ∈ gtbl := gk_25.1
set_option maxRecDepth 100000 in
theorem gn_X1_failing : Cond.instanceMethod yX1_failing ∈ gtbl := gk_25.2.1
set_option maxRecDepth 100000 in
theorem gs_X1_failing : Cond.selects (fR 1) yX1_failing yX1_failing ∈ gtbl := gk_25.2.2.1
set_option maxRecDepth 100000 in
theorem gp1_X1_failing : (parseMethodDescriptor yX1_failing.desc).map (fun d => d.parameters.length + 1) = some 3 := by decide +kernel
set_option maxRecDepth 100000 in
theorem gc_X1_failing : Cond.code yX1_failing cX1_failing 5 (some .int) ∈ gtbl := gk_25.2.2.2.1
set_option maxRecDepth 100000 in
theorem gi_X1_failing : Cond.initialized yX1_failing.cls ∈ gtbl := gi_X1_clearTold
set_option maxRecDepth 100000 in
theorem gh_X1_failing : yX1_failing.cls ≠ "java/lang/invoke/MethodHandle" ∧ yX1_failing.cls ≠ "java/lang/invoke/VarHandle" := gh_X1_clearTold
set_option maxRecDepth 100000 in
theorem gl_RX10_271 : Cond.methodLink RX10 271 yX1_agree ∈ gtbl := gk_25.2.2.2.2.2.2.2.2.2.1
set_option maxRecDepth 100000 in
theorem gn_X1_agree : Cond.instanceMethod yX1_agree ∈ gtbl := gk_25.2.2.2.2.2.2.2.2.2.2.1
set_option maxRecDepth 100000 in
theorem gs_X1_agree : Cond.selects (fR 1) yX1_agree yX1_agree ∈ gtbl := gk_25.2.2.2.2.2.2.2.2.2.2.2.1
set_option maxRecDepth 100000 in
theorem gp1_X1_agree : (parseMethodDescriptor yX1_agree.desc).map (fun d => d.parameters.length + 1) = some 1 := gp1_X6_readLine
set_option maxRecDepth 100000 in
theorem gc_X1_agree : Cond.code yX1_agree cX1_agree 4 (some .boolean) ∈ gtbl := gk_25.2.2.2.2.2.2.2.2.2.2.2.2.1
set_option maxRecDepth 100000 in
theorem gi_X1_agree : Cond.initialized yX1_agree.cls ∈ gtbl := gi_X1_clearTold
set_option maxRecDepth 100000 in
theorem gh_X1_agree : yX1_agree.cls ≠ "java/lang/invoke/MethodHandle" ∧ yX1_agree.cls ≠ "java/lang/invoke/VarHandle" := gh_X1_clearTold
set_option maxRecDepth 100000 in
theorem gl_RX10_275 : Cond.methodLink RX10 275 yX1_fewestCells ∈ gtbl := gk_25.2.2.2.2.2.2.2.2.2.2.2.2.2.1
set_option maxRecDepth 100000 in
theorem gn_X1_fewestCells : Cond.instanceMethod yX1_fewestCells ∈ gtbl := gk_25.2.2.2.2.2.2.2.2.2.2.2.2.2.2.1
set_option maxRecDepth 100000 in
theorem gs_X1_fewestCells : Cond.selects (fR 1) yX1_fewestCells yX1_fewestCells ∈ gtbl := gk_25.2.2.2.2.2.2.2.2.2.2.2.2.2.2.2.1
set_option maxRecDepth 100000 in
theorem gp1_X1_fewestCells : (parseMethodDescriptor yX1_fewestCells.desc).map (fun d => d.parameters.length + 1) = some 3 := gp1_X1_failing
set_option maxRecDepth 100000 in
theorem gc_X1_fewestCells : Cond.code yX1_fewestCells cX1_fewestCells 6 (some .int) ∈ gtbl := gk_26.1
set_option maxRecDepth 100000 in
theorem gi_X1_fewestCells : Cond.initialized yX1_fewestCells.cls ∈ gtbl := gi_X1_clearTold
set_option maxRecDepth 100000 in
theorem gh_X1_fewestCells : yX1_fewestCells.cls ≠ "java/lang/invoke/MethodHandle" ∧ yX1_fewestCells.cls ≠ "java/lang/invoke/VarHandle" := gh_X1_clearTold
set_option maxRecDepth 100000 in
theorem gl_RX10_278 : Cond.methodLink RX10 278 yX0_made ∈ gtbl := gk_27.2.1
set_option maxRecDepth 100000 in
theorem gl_RX10_287 : Cond.methodLink RX10 287 yX10_isPerson ∈ gtbl := gk_27.2.2.1
set_option maxRecDepth 100000 in
theorem gt_X10_isPerson : Cond.static yX10_isPerson ∈ gtbl := gk_27.2.2.2.1
set_option maxRecDepth 100000 in
theorem gp0_X10_isPerson : (parseMethodDescriptor yX10_isPerson.desc).map (fun d => d.parameters.length) = some 1 := gp0_X5_isNow
set_option maxRecDepth 100000 in
theorem gc_X10_isPerson : Cond.code yX10_isPerson cX10_isPerson 1 (some .boolean) ∈ gtbl := gk_27.2.2.2.2.1
set_option maxRecDepth 100000 in
theorem gi_X10_isPerson : Cond.initialized yX10_isPerson.cls ∈ gtbl := gi_X10_isLetter
set_option maxRecDepth 100000 in
theorem gh_X10_isPerson : yX10_isPerson.cls ≠ "java/lang/invoke/MethodHandle" ∧ yX10_isPerson.cls ≠ "java/lang/invoke/VarHandle" := gh_X10_isLetter
set_option maxRecDepth 100000 in
theorem gl_RX10_296 : Cond.methodLink RX10 296 yX9_restart ∈ gtbl := gk_10.2.2.2.2.2.2.2.2.2.2.1
set_option maxRecDepth 100000 in
theorem gl_RX10_299 : Cond.methodLink RX10 299 yX10_isCellOrAll ∈ gtbl := gk_27.2.2.2.2.2.1
set_option maxRecDepth 100000 in
theorem gn_X10_isCellOrAll : Cond.instanceMethod yX10_isCellOrAll ∈ gtbl := gk_27.2.2.2.2.2.2.1
set_option maxRecDepth 100000 in
theorem gs_X10_isCellOrAll : Cond.selects (fR 10) yX10_isCellOrAll yX10_isCellOrAll ∈ gtbl := gk_2.2.1
set_option maxRecDepth 100000 in
theorem gp1_X10_isCellOrAll : (parseMethodDescriptor yX10_isCellOrAll.desc).map (fun d => d.parameters.length + 1) = some 2 := gp1_X5_hasProduct
set_option maxRecDepth 100000 in
theorem gc_X10_isCellOrAll : Cond.code yX10_isCellOrAll cX10_isCellOrAll 2 (some .boolean) ∈ gtbl := gk_27.2.2.2.2.2.2.2.1
set_option maxRecDepth 100000 in
theorem gi_X10_isCellOrAll : Cond.initialized yX10_isCellOrAll.cls ∈ gtbl := gi_X10_isLetter
set_option maxRecDepth 100000 in
theorem gh_X10_isCellOrAll : yX10_isCellOrAll.cls ≠ "java/lang/invoke/MethodHandle" ∧ yX10_isCellOrAll.cls ≠ "java/lang/invoke/VarHandle" := gh_X10_isLetter
set_option maxRecDepth 100000 in
theorem gl_RX10_302 : Cond.methodLink RX10 302 yX9_reach ∈ gtbl := gk_27.2.2.2.2.2.2.2.2.1
set_option maxRecDepth 100000 in
theorem gl_RX10_305 : Cond.methodLink RX10 305 yX9_lastMinute ∈ gtbl := gk_28.2.2.2.2.2.2.2.2.2.2.2.2.1
set_option maxRecDepth 100000 in
theorem gl_RX10_309 : Cond.methodLink RX10 309 yX9_ended ∈ gtbl := gk_29.1
set_option maxRecDepth 100000 in
theorem gl_RX10_313 : Cond.methodLink RX10 313 yX8_find ∈ gtbl := gk_29.2.1
set_option maxRecDepth 100000 in
theorem gn_X8_find : Cond.instanceMethod yX8_find ∈ gtbl := gk_29.2.2.1
set_option maxRecDepth 100000 in
theorem gs_X8_find : Cond.selects (fR 8) yX8_find yX8_find ∈ gtbl := gk_29.2.2.2.1
set_option maxRecDepth 100000 in
theorem gp1_X8_find : (parseMethodDescriptor yX8_find.desc).map (fun d => d.parameters.length + 1) = some 5 := by decide +kernel
set_option maxRecDepth 100000 in
theorem gc_X8_find : Cond.code yX8_find cX8_find 7 none ∈ gtbl := gk_29.2.2.2.2.1
set_option maxRecDepth 100000 in
theorem gi_X8_find : Cond.initialized yX8_find.cls ∈ gtbl := gi_X8_take
set_option maxRecDepth 100000 in
theorem gh_X8_find : yX8_find.cls ≠ "java/lang/invoke/MethodHandle" ∧ yX8_find.cls ≠ "java/lang/invoke/VarHandle" := gh_X8_take
set_option maxRecDepth 100000 in
theorem gl_RX10_323 : Cond.methodLink RX10 323 yX10_reckonSmall ∈ gtbl := gk_30.2.2.2.2.2.2.2.2.2.2.1
set_option maxRecDepth 100000 in
theorem gn_X10_reckonSmall : Cond.instanceMethod yX10_reckonSmall ∈ gtbl := gk_30.2.2.2.2.2.2.2.2.2.2.2.1
set_option maxRecDepth 100000 in
theorem gs_X10_reckonSmall : Cond.selects (fR 10) yX10_reckonSmall yX10_reckonSmall ∈ gtbl := gk_2.2.2.2.2.2.2.2.1
set_option maxRecDepth 100000 in
theorem gp1_X10_reckonSmall : (parseMethodDescriptor yX10_reckonSmall.desc).map (fun d => d.parameters.length + 1) = some 2 := gp1_X1_findEvenSets
set_option maxRecDepth 100000 in
theorem gc_X10_reckonSmall : Cond.code yX10_reckonSmall cX10_reckonSmall 4 none ∈ gtbl := gk_30.2.2.2.2.2.2.2.2.2.2.2.2.1
set_option maxRecDepth 100000 in
theorem gi_X10_reckonSmall : Cond.initialized yX10_reckonSmall.cls ∈ gtbl := gi_X10_isLetter
set_option maxRecDepth 100000 in
theorem gh_X10_reckonSmall : yX10_reckonSmall.cls ≠ "java/lang/invoke/MethodHandle" ∧ yX10_reckonSmall.cls ≠ "java/lang/invoke/VarHandle" := gh_X10_isLetter
set_option maxRecDepth 100000 in
theorem gl_RX10_326 : Cond.methodLink RX10 326 yX10_isOff ∈ gtbl := gk_31.2.2.1
set_option maxRecDepth 100000 in
theorem gn_X10_isOff : Cond.instanceMethod yX10_isOff ∈ gtbl := gk_31.2.2.2.1
set_option maxRecDepth 100000 in
theorem gs_X10_isOff : Cond.selects (fR 10) yX10_isOff yX10_isOff ∈ gtbl := gk_2.2.2.2.2.2.2.2.2.2.1
set_option maxRecDepth 100000 in
theorem gp1_X10_isOff : (parseMethodDescriptor yX10_isOff.desc).map (fun d => d.parameters.length + 1) = some 5 := by decide +kernel
set_option maxRecDepth 100000 in
theorem gc_X10_isOff : Cond.code yX10_isOff cX10_isOff 7 (some .boolean) ∈ gtbl := gk_31.2.2.2.2.1
set_option maxRecDepth 100000 in
theorem gi_X10_isOff : Cond.initialized yX10_isOff.cls ∈ gtbl := gi_X10_isLetter
set_option maxRecDepth 100000 in
theorem gh_X10_isOff : yX10_isOff.cls ≠ "java/lang/invoke/MethodHandle" ∧ yX10_isOff.cls ≠ "java/lang/invoke/VarHandle" := gh_X10_isLetter
set_option maxRecDepth 100000 in
theorem gl_RX10_330 : Cond.methodLink RX10 330 yX7_copyFrom ∈ gtbl := gk_31.2.2.2.2.2.2.1
set_option maxRecDepth 100000 in
theorem gn_X7_copyFrom : Cond.instanceMethod yX7_copyFrom ∈ gtbl := gk_31.2.2.2.2.2.2.2.1
set_option maxRecDepth 100000 in
theorem gs_X7_copyFrom : Cond.selects (fR 7) yX7_copyFrom yX7_copyFrom ∈ gtbl := gk_31.2.2.2.2.2.2.2.2.1
set_option maxRecDepth 100000 in
theorem gp1_X7_copyFrom : (parseMethodDescriptor yX7_copyFrom.desc).map (fun d => d.parameters.length + 1) = some 2 := by decide +kernel
set_option maxRecDepth 100000 in
theorem gc_X7_copyFrom : Cond.code yX7_copyFrom cX7_copyFrom 3 none ∈ gtbl := gk_31.2.2.2.2.2.2.2.2.2.1
set_option maxRecDepth 100000 in
theorem gi_X7_copyFrom : Cond.initialized yX7_copyFrom.cls ∈ gtbl := gi_X7_slipped
set_option maxRecDepth 100000 in
theorem gh_X7_copyFrom : yX7_copyFrom.cls ≠ "java/lang/invoke/MethodHandle" ∧ yX7_copyFrom.cls ≠ "java/lang/invoke/VarHandle" := gh_X7_slipped
set_option maxRecDepth 100000 in
theorem gl_RX10_334 : Cond.methodLink RX10 334 yX7_gaps ∈ gtbl := gk_31.2.2.2.2.2.2.2.2.2.2.2.1
set_option maxRecDepth 100000 in
theorem gn_X7_gaps : Cond.instanceMethod yX7_gaps ∈ gtbl := gk_31.2.2.2.2.2.2.2.2.2.2.2.2.1
set_option maxRecDepth 100000 in
theorem gs_X7_gaps : Cond.selects (fR 7) yX7_gaps yX7_gaps ∈ gtbl := gk_31.2.2.2.2.2.2.2.2.2.2.2.2.2.1
set_option maxRecDepth 100000 in
theorem gp1_X7_gaps : (parseMethodDescriptor yX7_gaps.desc).map (fun d => d.parameters.length + 1) = some 2 := gp1_X5_end
set_option maxRecDepth 100000 in
theorem gc_X7_gaps : Cond.code yX7_gaps cX7_gaps 4 (some .int) ∈ gtbl := gk_31.2.2.2.2.2.2.2.2.2.2.2.2.2.2.1
set_option maxRecDepth 100000 in
theorem gi_X7_gaps : Cond.initialized yX7_gaps.cls ∈ gtbl := gi_X7_slipped
set_option maxRecDepth 100000 in
theorem gh_X7_gaps : yX7_gaps.cls ≠ "java/lang/invoke/MethodHandle" ∧ yX7_gaps.cls ≠ "java/lang/invoke/VarHandle" := gh_X7_slipped
set_option maxRecDepth 100000 in
theorem gl_RX10_338 : Cond.methodLink RX10 338 yX0_restart ∈ gtbl := gk_9.2.2.2.2.2.2.2.2.2.2.2.2.1
set_option maxRecDepth 100000 in
theorem gn_X0_restart : Cond.instanceMethod yX0_restart ∈ gtbl := gk_9.2.2.2.2.2.2.2.2.2.2.2.2.2.1
set_option maxRecDepth 100000 in
theorem gs_X0_restart : Cond.selects (fR 0) yX0_restart yX0_restart ∈ gtbl := gk_9.2.2.2.2.2.2.2.2.2.2.2.2.2.2.1
set_option maxRecDepth 100000 in
theorem gp1_X0_restart : (parseMethodDescriptor yX0_restart.desc).map (fun d => d.parameters.length + 1) = some 1 := gp1_X1_clearTold
set_option maxRecDepth 100000 in
theorem gc_X0_restart : Cond.code yX0_restart cX0_restart 1 none ∈ gtbl := gk_9.2.2.2.2.2.2.2.2.2.2.2.2.2.2.2.1
set_option maxRecDepth 100000 in
theorem gi_X0_restart : Cond.initialized yX0_restart.cls ∈ gtbl := gi_X0_takeFirsts
set_option maxRecDepth 100000 in
theorem gh_X0_restart : yX0_restart.cls ≠ "java/lang/invoke/MethodHandle" ∧ yX0_restart.cls ≠ "java/lang/invoke/VarHandle" := gh_X0_takeFirsts
set_option maxRecDepth 100000 in
theorem gl_RX10_339 : Cond.methodLink RX10 339 yX4_restart ∈ gtbl := gk_10.1
set_option maxRecDepth 100000 in
theorem gn_X4_restart : Cond.instanceMethod yX4_restart ∈ gtbl := gk_10.2.1
set_option maxRecDepth 100000 in
theorem gs_X4_restart : Cond.selects (fR 4) yX4_restart yX4_restart ∈ gtbl := gk_10.2.2.1
set_option maxRecDepth 100000 in
theorem gp1_X4_restart : (parseMethodDescriptor yX4_restart.desc).map (fun d => d.parameters.length + 1) = some 1 := gp1_X1_clearTold
set_option maxRecDepth 100000 in
theorem gc_X4_restart : Cond.code yX4_restart cX4_restart 1 none ∈ gtbl := gk_10.2.2.2.1
set_option maxRecDepth 100000 in
theorem gi_X4_restart : Cond.initialized yX4_restart.cls ∈ gtbl := gi_X4_markGaps
set_option maxRecDepth 100000 in
theorem gh_X4_restart : yX4_restart.cls ≠ "java/lang/invoke/MethodHandle" ∧ yX4_restart.cls ≠ "java/lang/invoke/VarHandle" := gh_X4_markGaps
set_option maxRecDepth 100000 in
theorem gl_RX10_340 : Cond.methodLink RX10 340 yX8_restart ∈ gtbl := gk_10.2.2.2.2.2.2.2.2.2.2.2.1
set_option maxRecDepth 100000 in
theorem gn_X8_restart : Cond.instanceMethod yX8_restart ∈ gtbl := gk_10.2.2.2.2.2.2.2.2.2.2.2.2.1
set_option maxRecDepth 100000 in
theorem gs_X8_restart : Cond.selects (fR 8) yX8_restart yX8_restart ∈ gtbl := gk_10.2.2.2.2.2.2.2.2.2.2.2.2.2.1
set_option maxRecDepth 100000 in
theorem gp1_X8_restart : (parseMethodDescriptor yX8_restart.desc).map (fun d => d.parameters.length + 1) = some 1 := gp1_X1_clearTold
set_option maxRecDepth 100000 in
theorem gc_X8_restart : Cond.code yX8_restart cX8_restart 1 none ∈ gtbl := gk_10.2.2.2.2.2.2.2.2.2.2.2.2.2.2.1
set_option maxRecDepth 100000 in
theorem gi_X8_restart : Cond.initialized yX8_restart.cls ∈ gtbl := gi_X8_take
set_option maxRecDepth 100000 in
theorem gh_X8_restart : yX8_restart.cls ≠ "java/lang/invoke/MethodHandle" ∧ yX8_restart.cls ≠ "java/lang/invoke/VarHandle" := gh_X8_take
set_option maxRecDepth 100000 in
theorem gl_RX10_341 : Cond.methodLink RX10 341 yX0_reach ∈ gtbl := gk_15.2.2.2.2.2.2.2.2.2.2.2.1
set_option maxRecDepth 100000 in
theorem gn_X0_reach : Cond.instanceMethod yX0_reach ∈ gtbl := gk_15.2.2.2.2.2.2.2.2.2.2.2.2.1
set_option maxRecDepth 100000 in
theorem gs_X0_reach : Cond.selects (fR 0) yX0_reach yX0_reach ∈ gtbl := gk_15.2.2.2.2.2.2.2.2.2.2.2.2.2.1
set_option maxRecDepth 100000 in
theorem gp1_X0_reach : (parseMethodDescriptor yX0_reach.desc).map (fun d => d.parameters.length + 1) = some 4 := gp1_X4_reach
set_option maxRecDepth 100000 in
theorem gc_X0_reach : Cond.code yX0_reach cX0_reach 9 none ∈ gtbl := gk_15.2.2.2.2.2.2.2.2.2.2.2.2.2.2.1
set_option maxRecDepth 100000 in
theorem gi_X0_reach : Cond.initialized yX0_reach.cls ∈ gtbl := gi_X0_takeFirsts
set_option maxRecDepth 100000 in
theorem gh_X0_reach : yX0_reach.cls ≠ "java/lang/invoke/MethodHandle" ∧ yX0_reach.cls ≠ "java/lang/invoke/VarHandle" := gh_X0_takeFirsts
set_option maxRecDepth 100000 in
theorem gl_RX10_348 : Cond.methodLink RX10 348 yX10_meanOfFour ∈ gtbl := gk_30.2.2.2.2.2.2.2.2.2.2.2.2.2.1
set_option maxRecDepth 100000 in
theorem gn_X10_meanOfFour : Cond.instanceMethod yX10_meanOfFour ∈ gtbl := gk_30.2.2.2.2.2.2.2.2.2.2.2.2.2.2.1
set_option maxRecDepth 100000 in
theorem gs_X10_meanOfFour : Cond.selects (fR 10) yX10_meanOfFour yX10_meanOfFour ∈ gtbl := gk_2.2.2.2.2.2.2.2.2.1
set_option maxRecDepth 100000 in
theorem gp1_X10_meanOfFour : (parseMethodDescriptor yX10_meanOfFour.desc).map (fun d => d.parameters.length + 1) = some 4 := gp1_X0_number
set_option maxRecDepth 100000 in
theorem gc_X10_meanOfFour : Cond.code yX10_meanOfFour cX10_meanOfFour 11 (some .int) ∈ gtbl := gk_30.2.2.2.2.2.2.2.2.2.2.2.2.2.2.2.1
set_option maxRecDepth 100000 in
theorem gi_X10_meanOfFour : Cond.initialized yX10_meanOfFour.cls ∈ gtbl := gi_X10_isLetter
set_option maxRecDepth 100000 in
theorem gh_X10_meanOfFour : yX10_meanOfFour.cls ≠ "java/lang/invoke/MethodHandle" ∧ yX10_meanOfFour.cls ≠ "java/lang/invoke/VarHandle" := gh_X10_isLetter
set_option maxRecDepth 100000 in
theorem gl_RX10_351 : Cond.methodLink RX10 351 yX0_set ∈ gtbl := gk_31.2.1
set_option maxRecDepth 100000 in
theorem gl_RX10_357 : Cond.methodLink RX10 357 yJ9_floorDiv_f86c9 ∈ gtbl := gk_31.1
set_option maxRecDepth 100000 in
theorem gl_RX10_363 : Cond.methodLink RX10 363 yJ9_abs_067f4 ∈ gtbl := gk_31.2.2.2.2.2.1
set_option maxRecDepth 100000 in
theorem gl_RX11_112 : Cond.methodLink RX11 112 yX11_begins ∈ gtbl := gk_31.2.2.2.2.2.2.2.2.2.2.2.2.2.2.2.1
set_option maxRecDepth 100000 in
theorem gn_X11_begins : Cond.instanceMethod yX11_begins ∈ gtbl := gk_32.1
set_option maxRecDepth 100000 in
theorem gs_X11_begins : Cond.selects (fR 11) yX11_begins yX11_begins ∈ gtbl := gk_2.2.2.2.2.2.2.2.2.2.2.1
set_option maxRecDepth 100000 in
theorem gp1_X11_begins : (parseMethodDescriptor yX11_begins.desc).map (fun d => d.parameters.length + 1) = some 1 := gp1_X1_clearTold
set_option maxRecDepth 100000 in
theorem gc_X11_begins : Cond.code yX11_begins cX11_begins 2 none ∈ gtbl := gk_32.2.1
set_option maxRecDepth 100000 in
theorem gi_X11_begins : Cond.initialized yX11_begins.cls ∈ gtbl := gk_5.2.2.2.2.2.2.1
set_option maxRecDepth 100000 in
theorem gh_X11_begins : yX11_begins.cls ≠ "java/lang/invoke/MethodHandle" ∧ yX11_begins.cls ≠ "java/lang/invoke/VarHandle" := ⟨by decide +kernel, by decide +kernel⟩
set_option maxRecDepth 100000 in
theorem gl_RX11_119 : Cond.methodLink RX11 119 yX11_clears ∈ gtbl := gk_32.2.2.1
set_option maxRecDepth 100000 in
theorem gn_X11_clears : Cond.instanceMethod yX11_clears ∈ gtbl := gk_32.2.2.2.1
set_option maxRecDepth 100000 in
theorem gs_X11_clears : Cond.selects (fR 11) yX11_clears yX11_clears ∈ gtbl := gk_2.2.2.2.2.2.2.2.2.2.2.2.1
set_option maxRecDepth 100000 in
theorem gp1_X11_clears : (parseMethodDescriptor yX11_clears.desc).map (fun d => d.parameters.length + 1) = some 1 := gp1_X1_clearTold
set_option maxRecDepth 100000 in
theorem gc_X11_clears : Cond.code yX11_clears cX11_clears 2 none ∈ gtbl := gk_32.2.2.2.2.1
set_option maxRecDepth 100000 in
theorem gi_X11_clears : Cond.initialized yX11_clears.cls ∈ gtbl := gi_X11_begins
set_option maxRecDepth 100000 in
theorem gh_X11_clears : yX11_clears.cls ≠ "java/lang/invoke/MethodHandle" ∧ yX11_clears.cls ≠ "java/lang/invoke/VarHandle" := gh_X11_begins
set_option maxRecDepth 100000 in
theorem gl_RX11_124 : Cond.methodLink RX11 124 yX11_cells ∈ gtbl := gk_32.2.2.2.2.2.2.2.2.1
set_option maxRecDepth 100000 in
theorem gn_X11_cells : Cond.instanceMethod yX11_cells ∈ gtbl := gk_32.2.2.2.2.2.2.2.2.2.1
set_option maxRecDepth 100000 in
theorem gs_X11_cells : Cond.selects (fR 11) yX11_cells yX11_cells ∈ gtbl := gk_2.2.2.2.2.2.2.2.2.2.2.2.2.1
set_option maxRecDepth 100000 in
theorem gp1_X11_cells : (parseMethodDescriptor yX11_cells.desc).map (fun d => d.parameters.length + 1) = some 1 := gp1_X6_ahead
set_option maxRecDepth 100000 in
theorem gc_X11_cells : Cond.code yX11_cells cX11_cells 1 (some .int) ∈ gtbl := gk_32.2.2.2.2.2.2.2.2.2.2.1
set_option maxRecDepth 100000 in
theorem gi_X11_cells : Cond.initialized yX11_cells.cls ∈ gtbl := gi_X11_begins
set_option maxRecDepth 100000 in
theorem gh_X11_cells : yX11_cells.cls ≠ "java/lang/invoke/MethodHandle" ∧ yX11_cells.cls ≠ "java/lang/invoke/VarHandle" := gh_X11_begins
set_option maxRecDepth 100000 in
theorem gl_RX11_128 : Cond.methodLink RX11 128 yX11_in ∈ gtbl := gk_32.2.2.2.2.2.1
set_option maxRecDepth 100000 in
theorem gt_X11_in : Cond.static yX11_in ∈ gtbl := gk_32.2.2.2.2.2.2.1
set_option maxRecDepth 100000 in
theorem gp0_X11_in : (parseMethodDescriptor yX11_in.desc).map (fun d => d.parameters.length) = some 3 := by decide +kernel
set_option maxRecDepth 100000 in
theorem gc_X11_in : Cond.code yX11_in cX11_in 6 (some .boolean) ∈ gtbl := gk_32.2.2.2.2.2.2.2.1
set_option maxRecDepth 100000 in
theorem gi_X11_in : Cond.initialized yX11_in.cls ∈ gtbl := gi_X11_begins
set_option maxRecDepth 100000 in
theorem gh_X11_in : yX11_in.cls ≠ "java/lang/invoke/MethodHandle" ∧ yX11_in.cls ≠ "java/lang/invoke/VarHandle" := gh_X11_begins
set_option maxRecDepth 100000 in
theorem gl_RX11_146 : Cond.methodLink RX11 146 yX11_isLetter ∈ gtbl := gk_32.2.2.2.2.2.2.2.2.2.2.2.1
set_option maxRecDepth 100000 in
theorem gt_X11_isLetter : Cond.static yX11_isLetter ∈ gtbl := gk_32.2.2.2.2.2.2.2.2.2.2.2.2.1
set_option maxRecDepth 100000 in
theorem gp0_X11_isLetter : (parseMethodDescriptor yX11_isLetter.desc).map (fun d => d.parameters.length) = some 1 := gp0_X5_isNow
set_option maxRecDepth 100000 in
theorem gc_X11_isLetter : Cond.code yX11_isLetter cX11_isLetter 1 (some .boolean) ∈ gtbl := gk_32.2.2.2.2.2.2.2.2.2.2.2.2.2.1
set_option maxRecDepth 100000 in
theorem gi_X11_isLetter : Cond.initialized yX11_isLetter.cls ∈ gtbl := gi_X11_begins
set_option maxRecDepth 100000 in
theorem gh_X11_isLetter : yX11_isLetter.cls ≠ "java/lang/invoke/MethodHandle" ∧ yX11_isLetter.cls ≠ "java/lang/invoke/VarHandle" := gh_X11_begins
set_option maxRecDepth 100000 in
theorem gl_RX11_168 : Cond.methodLink RX11 168 yX11_byteAt ∈ gtbl := gk_33.2.2.2.2.1
set_option maxRecDepth 100000 in
theorem gn_X11_byteAt : Cond.instanceMethod yX11_byteAt ∈ gtbl := gk_33.2.2.2.2.2.1
set_option maxRecDepth 100000 in
theorem gs_X11_byteAt : Cond.selects (fR 11) yX11_byteAt yX11_byteAt ∈ gtbl := gk_2.2.2.2.2.2.2.2.2.2.2.2.2.2.2.2.1
set_option maxRecDepth 100000 in
theorem gp1_X11_byteAt : (parseMethodDescriptor yX11_byteAt.desc).map (fun d => d.parameters.length + 1) = some 2 := gp1_X5_end
set_option maxRecDepth 100000 in
theorem gc_X11_byteAt : Cond.code yX11_byteAt cX11_byteAt 2 (some .int) ∈ gtbl := gk_33.2.2.2.2.2.2.1
set_option maxRecDepth 100000 in
theorem gi_X11_byteAt : Cond.initialized yX11_byteAt.cls ∈ gtbl := gi_X11_begins
set_option maxRecDepth 100000 in
theorem gh_X11_byteAt : yX11_byteAt.cls ≠ "java/lang/invoke/MethodHandle" ∧ yX11_byteAt.cls ≠ "java/lang/invoke/VarHandle" := gh_X11_begins
set_option maxRecDepth 100000 in
theorem gl_RX11_177 : Cond.methodLink RX11 177 yX11_fails ∈ gtbl := gk_33.2.2.2.2.2.2.2.1
set_option maxRecDepth 100000 in
theorem gn_X11_fails : Cond.instanceMethod yX11_fails ∈ gtbl := gk_33.2.2.2.2.2.2.2.2.1
set_option maxRecDepth 100000 in
theorem gs_X11_fails : Cond.selects (fR 11) yX11_fails yX11_fails ∈ gtbl := gk_3.1
set_option maxRecDepth 100000 in
theorem gp1_X11_fails : (parseMethodDescriptor yX11_fails.desc).map (fun d => d.parameters.length + 1) = some 2 := gp1_X1_findEvenSets
set_option maxRecDepth 100000 in
theorem gc_X11_fails : Cond.code yX11_fails cX11_fails 2 none ∈ gtbl := gk_33.2.2.2.2.2.2.2.2.2.1
set_option maxRecDepth 100000 in
theorem gi_X11_fails : Cond.initialized yX11_fails.cls ∈ gtbl := gi_X11_begins
set_option maxRecDepth 100000 in
theorem gh_X11_fails : yX11_fails.cls ≠ "java/lang/invoke/MethodHandle" ∧ yX11_fails.cls ≠ "java/lang/invoke/VarHandle" := gh_X11_begins
set_option maxRecDepth 100000 in
theorem gl_RX11_184 : Cond.methodLink RX11 184 yX11_number ∈ gtbl := gk_33.2.2.2.2.2.2.2.2.2.2.2.2.2.1
set_option maxRecDepth 100000 in
theorem gn_X11_number : Cond.instanceMethod yX11_number ∈ gtbl := gk_33.2.2.2.2.2.2.2.2.2.2.2.2.2.2.1
set_option maxRecDepth 100000 in
theorem gs_X11_number : Cond.selects (fR 11) yX11_number yX11_number ∈ gtbl := gk_3.2.2.1
set_option maxRecDepth 100000 in
theorem gp1_X11_number : (parseMethodDescriptor yX11_number.desc).map (fun d => d.parameters.length + 1) = some 2 := gp1_X5_end
set_option maxRecDepth 100000 in
theorem gc_X11_number : Cond.code yX11_number cX11_number 4 (some .int) ∈ gtbl := gk_33.2.2.2.2.2.2.2.2.2.2.2.2.2.2.2.1
set_option maxRecDepth 100000 in
theorem gi_X11_number : Cond.initialized yX11_number.cls ∈ gtbl := gi_X11_begins
set_option maxRecDepth 100000 in
theorem gh_X11_number : yX11_number.cls ≠ "java/lang/invoke/MethodHandle" ∧ yX11_number.cls ≠ "java/lang/invoke/VarHandle" := gh_X11_begins
set_option maxRecDepth 100000 in
theorem gl_RX11_190 : Cond.methodLink RX11 190 yX11_name ∈ gtbl := gk_34.1
set_option maxRecDepth 100000 in
theorem gn_X11_name : Cond.instanceMethod yX11_name ∈ gtbl := gk_34.2.1
set_option maxRecDepth 100000 in
theorem gs_X11_name : Cond.selects (fR 11) yX11_name yX11_name ∈ gtbl := gk_3.2.2.2.1
set_option maxRecDepth 100000 in
theorem gp1_X11_name : (parseMethodDescriptor yX11_name.desc).map (fun d => d.parameters.length + 1) = some 1 := gp1_X6_ahead
set_option maxRecDepth 100000 in
theorem gc_X11_name : Cond.code yX11_name cX11_name 7 (some .int) ∈ gtbl := gk_34.2.2.1
set_option maxRecDepth 100000 in
theorem gi_X11_name : Cond.initialized yX11_name.cls ∈ gtbl := gi_X11_begins
set_option maxRecDepth 100000 in
theorem gh_X11_name : yX11_name.cls ≠ "java/lang/invoke/MethodHandle" ∧ yX11_name.cls ≠ "java/lang/invoke/VarHandle" := gh_X11_begins
set_option maxRecDepth 100000 in
theorem gl_RX11_193 : Cond.methodLink RX11 193 yX11_term ∈ gtbl := gk_33.2.2.2.2.2.2.2.2.2.2.1
set_option maxRecDepth 100000 in
theorem gn_X11_term : Cond.instanceMethod yX11_term ∈ gtbl := gk_33.2.2.2.2.2.2.2.2.2.2.2.1
set_option maxRecDepth 100000 in
theorem gs_X11_term : Cond.selects (fR 11) yX11_term yX11_term ∈ gtbl := gk_3.2.1
set_option maxRecDepth 100000 in
theorem gp1_X11_term : (parseMethodDescriptor yX11_term.desc).map (fun d => d.parameters.length + 1) = some 2 := by decide +kernel
set_option maxRecDepth 100000 in
theorem gc_X11_term : Cond.code yX11_term cX11_term 4 none ∈ gtbl := gk_33.2.2.2.2.2.2.2.2.2.2.2.2.1
set_option maxRecDepth 100000 in
theorem gi_X11_term : Cond.initialized yX11_term.cls ∈ gtbl := gi_X11_begins
set_option maxRecDepth 100000 in
theorem gh_X11_term : yX11_term.cls ≠ "java/lang/invoke/MethodHandle" ∧ yX11_term.cls ≠ "java/lang/invoke/VarHandle" := gh_X11_begins
set_option maxRecDepth 100000 in
theorem gl_RX11_197 : Cond.methodLink RX11 197 yX11_readLine ∈ gtbl := gk_33.2.1
set_option maxRecDepth 100000 in
theorem gn_X11_readLine : Cond.instanceMethod yX11_readLine ∈ gtbl := gk_33.2.2.1
set_option maxRecDepth 100000 in
theorem gs_X11_readLine : Cond.selects (fR 11) yX11_readLine yX11_readLine ∈ gtbl := gk_2.2.2.2.2.2.2.2.2.2.2.2.2.2.2.1
set_option maxRecDepth 100000 in
theorem gp1_X11_readLine : (parseMethodDescriptor yX11_readLine.desc).map (fun d => d.parameters.length + 1) = some 1 := gp1_X1_clearTold
set_option maxRecDepth 100000 in
theorem gc_X11_readLine : Cond.code yX11_readLine cX11_readLine 6 none ∈ gtbl := gk_33.2.2.2.1
set_option maxRecDepth 100000 in
theorem gi_X11_readLine : Cond.initialized yX11_readLine.cls ∈ gtbl := gi_X11_begins
set_option maxRecDepth 100000 in
theorem gh_X11_readLine : yX11_readLine.cls ≠ "java/lang/invoke/MethodHandle" ∧ yX11_readLine.cls ≠ "java/lang/invoke/VarHandle" := gh_X11_begins
set_option maxRecDepth 100000 in
theorem gl_RX11_200 : Cond.methodLink RX11 200 yX11_faultOf ∈ gtbl := gk_32.2.2.2.2.2.2.2.2.2.2.2.2.2.2.1
set_option maxRecDepth 100000 in
theorem gn_X11_faultOf : Cond.instanceMethod yX11_faultOf ∈ gtbl := gk_32.2.2.2.2.2.2.2.2.2.2.2.2.2.2.2.1
set_option maxRecDepth 100000 in
theorem gs_X11_faultOf : Cond.selects (fR 11) yX11_faultOf yX11_faultOf ∈ gtbl := gk_2.2.2.2.2.2.2.2.2.2.2.2.2.2.1
set_option maxRecDepth 100000 in
theorem gp1_X11_faultOf : (parseMethodDescriptor yX11_faultOf.desc).map (fun d => d.parameters.length + 1) = some 1 := gp1_X6_ahead
set_option maxRecDepth 100000 in
theorem gc_X11_faultOf : Cond.code yX11_faultOf cX11_faultOf 2 (some .int) ∈ gtbl := gk_33.1
set_option maxRecDepth 100000 in
theorem gi_X11_faultOf : Cond.initialized yX11_faultOf.cls ∈ gtbl := gi_X11_begins
set_option maxRecDepth 100000 in
theorem gh_X11_faultOf : yX11_faultOf.cls ≠ "java/lang/invoke/MethodHandle" ∧ yX11_faultOf.cls ≠ "java/lang/invoke/VarHandle" := gh_X11_begins
set_option maxRecDepth 100000 in
theorem gl_RX11_208 : Cond.methodLink RX11 208 yX11_hasProduct ∈ gtbl := gk_34.2.2.2.1
set_option maxRecDepth 100000 in
theorem gn_X11_hasProduct : Cond.instanceMethod yX11_hasProduct ∈ gtbl := gk_34.2.2.2.2.1
set_option maxRecDepth 100000 in
theorem gs_X11_hasProduct : Cond.selects (fR 11) yX11_hasProduct yX11_hasProduct ∈ gtbl := gk_3.2.2.2.2.1
set_option maxRecDepth 100000 in
theorem gp1_X11_hasProduct : (parseMethodDescriptor yX11_hasProduct.desc).map (fun d => d.parameters.length + 1) = some 2 := gp1_X5_hasProduct
set_option maxRecDepth 100000 in
theorem gc_X11_hasProduct : Cond.code yX11_hasProduct cX11_hasProduct 4 (some .boolean) ∈ gtbl := gk_34.2.2.2.2.2.1
set_option maxRecDepth 100000 in
theorem gi_X11_hasProduct : Cond.initialized yX11_hasProduct.cls ∈ gtbl := gi_X11_begins
set_option maxRecDepth 100000 in
theorem gh_X11_hasProduct : yX11_hasProduct.cls ≠ "java/lang/invoke/MethodHandle" ∧ yX11_hasProduct.cls ≠ "java/lang/invoke/VarHandle" := gh_X11_begins
set_option maxRecDepth 100000 in
theorem gl_RX11_217 : Cond.methodLink RX11 217 yX11_place ∈ gtbl := gk_35.2.2.1
set_option maxRecDepth 100000 in
theorem gt_X11_place : Cond.static yX11_place ∈ gtbl := gk_35.2.2.2.1
set_option maxRecDepth 100000 in
theorem gp0_X11_place : (parseMethodDescriptor yX11_place.desc).map (fun d => d.parameters.length) = some 3 := by decide +kernel
set_option maxRecDepth 100000 in
theorem gc_X11_place : Cond.code yX11_place cX11_place 3 (some .int) ∈ gtbl := gk_35.2.2.2.2.1
set_option maxRecDepth 100000 in
theorem gi_X11_place : Cond.initialized yX11_place.cls ∈ gtbl := gi_X11_begins
set_option maxRecDepth 100000 in
theorem gh_X11_place : yX11_place.cls ≠ "java/lang/invoke/MethodHandle" ∧ yX11_place.cls ≠ "java/lang/invoke/VarHandle" := gh_X11_begins
set_option maxRecDepth 100000 in
theorem gl_RX11_221 : Cond.methodLink RX11 221 yX11_next ∈ gtbl := gk_35.2.2.2.2.2.2.2.2.1
set_option maxRecDepth 100000 in
theorem gn_X11_next : Cond.instanceMethod yX11_next ∈ gtbl := gk_35.2.2.2.2.2.2.2.2.2.1
set_option maxRecDepth 100000 in
theorem gs_X11_next : Cond.selects (fR 11) yX11_next yX11_next ∈ gtbl := gk_3.2.2.2.2.2.2.2.2.2.2.1
set_option maxRecDepth 100000 in
theorem gp1_X11_next : (parseMethodDescriptor yX11_next.desc).map (fun d => d.parameters.length + 1) = some 3 := gp1_X7_firstAt
set_option maxRecDepth 100000 in
theorem gc_X11_next : Cond.code yX11_next cX11_next 5 (some .int) ∈ gtbl := gk_35.2.2.2.2.2.2.2.2.2.2.1
set_option maxRecDepth 100000 in
theorem gi_X11_next : Cond.initialized yX11_next.cls ∈ gtbl := gi_X11_begins
set_option maxRecDepth 100000 in
theorem gh_X11_next : yX11_next.cls ≠ "java/lang/invoke/MethodHandle" ∧ yX11_next.cls ≠ "java/lang/invoke/VarHandle" := gh_X11_begins
set_option maxRecDepth 100000 in
theorem gl_RX11_225 : Cond.methodLink RX11 225 yX11_named ∈ gtbl := gk_36.2.2.2.2.1
set_option maxRecDepth 100000 in
theorem gn_X11_named : Cond.instanceMethod yX11_named ∈ gtbl := gk_36.2.2.2.2.2.1
set_option maxRecDepth 100000 in
theorem gs_X11_named : Cond.selects (fR 11) yX11_named yX11_named ∈ gtbl := gk_3.2.2.2.2.2.2.2.2.2.2.2.2.2.1
set_option maxRecDepth 100000 in
theorem gp1_X11_named : (parseMethodDescriptor yX11_named.desc).map (fun d => d.parameters.length + 1) = some 5 := by decide +kernel
set_option maxRecDepth 100000 in
theorem gc_X11_named : Cond.code yX11_named cX11_named 8 (some .int) ∈ gtbl := gk_36.2.2.2.2.2.2.1
set_option maxRecDepth 100000 in
theorem gi_X11_named : Cond.initialized yX11_named.cls ∈ gtbl := gi_X11_begins
set_option maxRecDepth 100000 in
theorem gh_X11_named : yX11_named.cls ≠ "java/lang/invoke/MethodHandle" ∧ yX11_named.cls ≠ "java/lang/invoke/VarHandle" := gh_X11_begins
set_option maxRecDepth 100000 in
theorem gl_RX11_231 : Cond.methodLink RX11 231 yX11_size ∈ gtbl := gk_36.2.2.2.2.2.2.2.1
set_option maxRecDepth 100000 in
theorem gt_X11_size : Cond.static yX11_size ∈ gtbl := gk_36.2.2.2.2.2.2.2.2.1
set_option maxRecDepth 100000 in
theorem gp0_X11_size : (parseMethodDescriptor yX11_size.desc).map (fun d => d.parameters.length) = some 1 := gp0_J9_abs_067f4
set_option maxRecDepth 100000 in
theorem gc_X11_size : Cond.code yX11_size cX11_size 2 (some .long) ∈ gtbl := gk_36.2.2.2.2.2.2.2.2.2.1
set_option maxRecDepth 100000 in
theorem gi_X11_size : Cond.initialized yX11_size.cls ∈ gtbl := gi_X11_begins
set_option maxRecDepth 100000 in
theorem gh_X11_size : yX11_size.cls ≠ "java/lang/invoke/MethodHandle" ∧ yX11_size.cls ≠ "java/lang/invoke/VarHandle" := gh_X11_begins
set_option maxRecDepth 100000 in
theorem gl_RX11_238 : Cond.methodLink RX11 238 yX11_downLong ∈ gtbl := gk_36.2.2.2.2.2.2.2.2.2.2.1
set_option maxRecDepth 100000 in
theorem gt_X11_downLong : Cond.static yX11_downLong ∈ gtbl := gk_36.2.2.2.2.2.2.2.2.2.2.2.1
set_option maxRecDepth 100000 in
theorem gp0_X11_downLong : (parseMethodDescriptor yX11_downLong.desc).map (fun d => d.parameters.length) = some 2 := gp0_J9_floorDiv_f86c9
set_option maxRecDepth 100000 in
theorem gc_X11_downLong : Cond.code yX11_downLong cX11_downLong 4 (some .long) ∈ gtbl := gk_36.2.2.2.2.2.2.2.2.2.2.2.2.1
set_option maxRecDepth 100000 in
theorem gi_X11_downLong : Cond.initialized yX11_downLong.cls ∈ gtbl := gi_X11_begins
set_option maxRecDepth 100000 in
theorem gh_X11_downLong : yX11_downLong.cls ≠ "java/lang/invoke/MethodHandle" ∧ yX11_downLong.cls ≠ "java/lang/invoke/VarHandle" := gh_X11_begins
set_option maxRecDepth 100000 in
theorem gl_RX11_244 : Cond.methodLink RX11 244 yX11_namedMarked ∈ gtbl := gk_37.2.2.2.1
set_option maxRecDepth 100000 in
theorem gn_X11_namedMarked : Cond.instanceMethod yX11_namedMarked ∈ gtbl := gk_37.2.2.2.2.1
set_option maxRecDepth 100000 in
theorem gs_X11_namedMarked : Cond.selects (fR 11) yX11_namedMarked yX11_namedMarked ∈ gtbl := gk_4.1
set_option maxRecDepth 100000 in
theorem gp1_X11_namedMarked : (parseMethodDescriptor yX11_namedMarked.desc).map (fun d => d.parameters.length + 1) = some 4 := gp1_X4_has
set_option maxRecDepth 100000 in
theorem gc_X11_namedMarked : Cond.code yX11_namedMarked cX11_namedMarked 7 (some .boolean) ∈ gtbl := gk_37.2.2.2.2.2.1
set_option maxRecDepth 100000 in
theorem gi_X11_namedMarked : Cond.initialized yX11_namedMarked.cls ∈ gtbl := gi_X11_begins
set_option maxRecDepth 100000 in
theorem gh_X11_namedMarked : yX11_namedMarked.cls ≠ "java/lang/invoke/MethodHandle" ∧ yX11_namedMarked.cls ≠ "java/lang/invoke/VarHandle" := gh_X11_begins
set_option maxRecDepth 100000 in
theorem gl_RX11_248 : Cond.methodLink RX11 248 yX11_made ∈ gtbl := gk_36.2.1
set_option maxRecDepth 100000 in
theorem gn_X11_made : Cond.instanceMethod yX11_made ∈ gtbl := gk_36.2.2.1
set_option maxRecDepth 100000 in
theorem gs_X11_made : Cond.selects (fR 11) yX11_made yX11_made ∈ gtbl := gk_3.2.2.2.2.2.2.2.2.2.2.2.2.1
set_option maxRecDepth 100000 in
theorem gp1_X11_made : (parseMethodDescriptor yX11_made.desc).map (fun d => d.parameters.length + 1) = some 5 := gp1_X11_named
set_option maxRecDepth 100000 in
theorem gc_X11_made : Cond.code yX11_made cX11_made 14 (some .int) ∈ gtbl := gk_36.2.2.2.1
set_option maxRecDepth 100000 in
theorem gi_X11_made : Cond.initialized yX11_made.cls ∈ gtbl := gi_X11_begins
set_option maxRecDepth 100000 in
theorem gh_X11_made : yX11_made.cls ≠ "java/lang/invoke/MethodHandle" ∧ yX11_made.cls ≠ "java/lang/invoke/VarHandle" := gh_X11_begins
set_option maxRecDepth 100000 in
theorem gl_RX11_251 : Cond.methodLink RX11 251 yX11_slipped ∈ gtbl := gk_36.2.2.2.2.2.2.2.2.2.2.2.2.2.1
set_option maxRecDepth 100000 in
theorem gn_X11_slipped : Cond.instanceMethod yX11_slipped ∈ gtbl := gk_36.2.2.2.2.2.2.2.2.2.2.2.2.2.2.1
set_option maxRecDepth 100000 in
theorem gs_X11_slipped : Cond.selects (fR 11) yX11_slipped yX11_slipped ∈ gtbl := gk_3.2.2.2.2.2.2.2.2.2.2.2.2.2.2.1
set_option maxRecDepth 100000 in
theorem gp1_X11_slipped : (parseMethodDescriptor yX11_slipped.desc).map (fun d => d.parameters.length + 1) = some 6 := gp1_X7_slipped
set_option maxRecDepth 100000 in
theorem gc_X11_slipped : Cond.code yX11_slipped cX11_slipped 8 (some .int) ∈ gtbl := gk_36.2.2.2.2.2.2.2.2.2.2.2.2.2.2.2.1
set_option maxRecDepth 100000 in
theorem gi_X11_slipped : Cond.initialized yX11_slipped.cls ∈ gtbl := gi_X11_begins
set_option maxRecDepth 100000 in
theorem gh_X11_slipped : yX11_slipped.cls ≠ "java/lang/invoke/MethodHandle" ∧ yX11_slipped.cls ≠ "java/lang/invoke/VarHandle" := gh_X11_begins
set_option maxRecDepth 100000 in
theorem gl_RX11_255 : Cond.methodLink RX11 255 yX11_madeMarked ∈ gtbl := gk_37.1
set_option maxRecDepth 100000 in
theorem gn_X11_madeMarked : Cond.instanceMethod yX11_madeMarked ∈ gtbl := gk_37.2.1
set_option maxRecDepth 100000 in
theorem gs_X11_madeMarked : Cond.selects (fR 11) yX11_madeMarked yX11_madeMarked ∈ gtbl := gk_3.2.2.2.2.2.2.2.2.2.2.2.2.2.2.2.1
set_option maxRecDepth 100000 in
theorem gp1_X11_madeMarked : (parseMethodDescriptor yX11_madeMarked.desc).map (fun d => d.parameters.length + 1) = some 4 := gp1_X4_has
set_option maxRecDepth 100000 in
theorem gc_X11_madeMarked : Cond.code yX11_madeMarked cX11_madeMarked 6 (some .boolean) ∈ gtbl := gk_37.2.2.1
set_option maxRecDepth 100000 in
theorem gi_X11_madeMarked : Cond.initialized yX11_madeMarked.cls ∈ gtbl := gi_X11_begins
set_option maxRecDepth 100000 in
theorem gh_X11_madeMarked : yX11_madeMarked.cls ≠ "java/lang/invoke/MethodHandle" ∧ yX11_madeMarked.cls ≠ "java/lang/invoke/VarHandle" := gh_X11_begins
set_option maxRecDepth 100000 in
theorem gl_RX11_258 : Cond.methodLink RX11 258 yX11_down ∈ gtbl := gk_35.2.2.2.2.2.2.2.2.2.2.2.1
set_option maxRecDepth 100000 in
theorem gt_X11_down : Cond.static yX11_down ∈ gtbl := gk_35.2.2.2.2.2.2.2.2.2.2.2.2.1
set_option maxRecDepth 100000 in
theorem gp0_X11_down : (parseMethodDescriptor yX11_down.desc).map (fun d => d.parameters.length) = some 2 := by decide +kernel
set_option maxRecDepth 100000 in
theorem gc_X11_down : Cond.code yX11_down cX11_down 4 (some .int) ∈ gtbl := gk_35.2.2.2.2.2.2.2.2.2.2.2.2.2.1
set_option maxRecDepth 100000 in
theorem gi_X11_down : Cond.initialized yX11_down.cls ∈ gtbl := gi_X11_begins
set_option maxRecDepth 100000 in
theorem gh_X11_down : yX11_down.cls ≠ "java/lang/invoke/MethodHandle" ∧ yX11_down.cls ≠ "java/lang/invoke/VarHandle" := gh_X11_begins
set_option maxRecDepth 100000 in
theorem gl_RX11_262 : Cond.methodLink RX11 262 yX11_filled ∈ gtbl := gk_35.2.2.2.2.2.1
set_option maxRecDepth 100000 in
theorem gn_X11_filled : Cond.instanceMethod yX11_filled ∈ gtbl := gk_35.2.2.2.2.2.2.1
set_option maxRecDepth 100000 in
theorem gs_X11_filled : Cond.selects (fR 11) yX11_filled yX11_filled ∈ gtbl := gk_3.2.2.2.2.2.2.2.2.2.1
set_option maxRecDepth 100000 in
theorem gp1_X11_filled : (parseMethodDescriptor yX11_filled.desc).map (fun d => d.parameters.length + 1) = some 3 := gp1_X7_firstAt
set_option maxRecDepth 100000 in
theorem gc_X11_filled : Cond.code yX11_filled cX11_filled 10 (some .int) ∈ gtbl := gk_35.2.2.2.2.2.2.2.1
set_option maxRecDepth 100000 in
theorem gi_X11_filled : Cond.initialized yX11_filled.cls ∈ gtbl := gi_X11_begins
set_option maxRecDepth 100000 in
theorem gh_X11_filled : yX11_filled.cls ≠ "java/lang/invoke/MethodHandle" ∧ yX11_filled.cls ≠ "java/lang/invoke/VarHandle" := gh_X11_begins
set_option maxRecDepth 100000 in
theorem gl_RX11_265 : Cond.methodLink RX11 265 yX11_steps ∈ gtbl := gk_35.2.2.2.2.2.2.2.2.2.2.2.2.2.2.1
set_option maxRecDepth 100000 in
theorem gn_X11_steps : Cond.instanceMethod yX11_steps ∈ gtbl := gk_35.2.2.2.2.2.2.2.2.2.2.2.2.2.2.2.1
set_option maxRecDepth 100000 in
theorem gs_X11_steps : Cond.selects (fR 11) yX11_steps yX11_steps ∈ gtbl := gk_3.2.2.2.2.2.2.2.2.2.2.2.1
set_option maxRecDepth 100000 in
theorem gp1_X11_steps : (parseMethodDescriptor yX11_steps.desc).map (fun d => d.parameters.length + 1) = some 3 := by decide +kernel
set_option maxRecDepth 100000 in
theorem gc_X11_steps : Cond.code yX11_steps cX11_steps 8 none ∈ gtbl := gk_36.1
set_option maxRecDepth 100000 in
theorem gi_X11_steps : Cond.initialized yX11_steps.cls ∈ gtbl := gi_X11_begins
set_option maxRecDepth 100000 in
theorem gh_X11_steps : yX11_steps.cls ≠ "java/lang/invoke/MethodHandle" ∧ yX11_steps.cls ≠ "java/lang/invoke/VarHandle" := gh_X11_begins
set_option maxRecDepth 100000 in
theorem gl_RX11_269 : Cond.methodLink RX11 269 yX11_isCell ∈ gtbl := gk_34.2.2.2.2.2.2.1
set_option maxRecDepth 100000 in
theorem gn_X11_isCell : Cond.instanceMethod yX11_isCell ∈ gtbl := gk_34.2.2.2.2.2.2.2.1
set_option maxRecDepth 100000 in
theorem gs_X11_isCell : Cond.selects (fR 11) yX11_isCell yX11_isCell ∈ gtbl := gk_3.2.2.2.2.2.1
set_option maxRecDepth 100000 in
theorem gp1_X11_isCell : (parseMethodDescriptor yX11_isCell.desc).map (fun d => d.parameters.length + 1) = some 2 := gp1_X5_hasProduct
set_option maxRecDepth 100000 in
theorem gc_X11_isCell : Cond.code yX11_isCell cX11_isCell 2 (some .boolean) ∈ gtbl := gk_34.2.2.2.2.2.2.2.2.1
set_option maxRecDepth 100000 in
theorem gi_X11_isCell : Cond.initialized yX11_isCell.cls ∈ gtbl := gi_X11_begins
set_option maxRecDepth 100000 in
theorem gh_X11_isCell : yX11_isCell.cls ≠ "java/lang/invoke/MethodHandle" ∧ yX11_isCell.cls ≠ "java/lang/invoke/VarHandle" := gh_X11_begins
set_option maxRecDepth 100000 in
theorem gl_RX11_274 : Cond.methodLink RX11 274 yX11_isPlace ∈ gtbl := gk_34.2.2.2.2.2.2.2.2.2.1
set_option maxRecDepth 100000 in
theorem gn_X11_isPlace : Cond.instanceMethod yX11_isPlace ∈ gtbl := gk_34.2.2.2.2.2.2.2.2.2.2.1
set_option maxRecDepth 100000 in
theorem gs_X11_isPlace : Cond.selects (fR 11) yX11_isPlace yX11_isPlace ∈ gtbl := gk_3.2.2.2.2.2.2.1
set_option maxRecDepth 100000 in
theorem gp1_X11_isPlace : (parseMethodDescriptor yX11_isPlace.desc).map (fun d => d.parameters.length + 1) = some 4 := gp1_X4_has
set_option maxRecDepth 100000 in
theorem gc_X11_isPlace : Cond.code yX11_isPlace cX11_isPlace 4 (some .boolean) ∈ gtbl := gk_34.2.2.2.2.2.2.2.2.2.2.2.1
set_option maxRecDepth 100000 in
theorem gi_X11_isPlace : Cond.initialized yX11_isPlace.cls ∈ gtbl := gi_X11_begins
set_option maxRecDepth 100000 in
theorem gh_X11_isPlace : yX11_isPlace.cls ≠ "java/lang/invoke/MethodHandle" ∧ yX11_isPlace.cls ≠ "java/lang/invoke/VarHandle" := gh_X11_begins
set_option maxRecDepth 100000 in
theorem gl_RX11_278 : Cond.methodLink RX11 278 yX11_all ∈ gtbl := gk_34.2.2.2.2.2.2.2.2.2.2.2.2.1
set_option maxRecDepth 100000 in
theorem gn_X11_all : Cond.instanceMethod yX11_all ∈ gtbl := gk_34.2.2.2.2.2.2.2.2.2.2.2.2.2.1
set_option maxRecDepth 100000 in
theorem gs_X11_all : Cond.selects (fR 11) yX11_all yX11_all ∈ gtbl := gk_3.2.2.2.2.2.2.2.1
set_option maxRecDepth 100000 in
theorem gp1_X11_all : (parseMethodDescriptor yX11_all.desc).map (fun d => d.parameters.length + 1) = some 1 := gp1_X6_ahead
set_option maxRecDepth 100000 in
theorem gc_X11_all : Cond.code yX11_all cX11_all 1 (some .int) ∈ gtbl := gk_34.2.2.2.2.2.2.2.2.2.2.2.2.2.2.1
set_option maxRecDepth 100000 in
theorem gi_X11_all : Cond.initialized yX11_all.cls ∈ gtbl := gi_X11_begins
set_option maxRecDepth 100000 in
theorem gh_X11_all : yX11_all.cls ≠ "java/lang/invoke/MethodHandle" ∧ yX11_all.cls ≠ "java/lang/invoke/VarHandle" := gh_X11_begins
set_option maxRecDepth 100000 in
theorem gl_RX11_281 : Cond.methodLink RX11 281 yX11_hall ∈ gtbl := gk_34.2.2.2.2.2.2.2.2.2.2.2.2.2.2.2.1
set_option maxRecDepth 100000 in
theorem gn_X11_hall : Cond.instanceMethod yX11_hall ∈ gtbl := gk_35.1
set_option maxRecDepth 100000 in
theorem gs_X11_hall : Cond.selects (fR 11) yX11_hall yX11_hall ∈ gtbl := gk_3.2.2.2.2.2.2.2.2.1
set_option maxRecDepth 100000 in
theorem gp1_X11_hall : (parseMethodDescriptor yX11_hall.desc).map (fun d => d.parameters.length + 1) = some 3 := gp1_X11_steps
set_option maxRecDepth 100000 in
theorem gc_X11_hall : Cond.code yX11_hall cX11_hall 5 none ∈ gtbl := gk_35.2.1
set_option maxRecDepth 100000 in
theorem gi_X11_hall : Cond.initialized yX11_hall.cls ∈ gtbl := gi_X11_begins
set_option maxRecDepth 100000 in
theorem gh_X11_hall : yX11_hall.cls ≠ "java/lang/invoke/MethodHandle" ∧ yX11_hall.cls ≠ "java/lang/invoke/VarHandle" := gh_X11_begins
set_option maxRecDepth 100000 in
theorem gl_RX11_296 : Cond.methodLink RX11 296 yX11_tells ∈ gtbl := gk_37.2.2.2.2.2.2.1
set_option maxRecDepth 100000 in
theorem gn_X11_tells : Cond.instanceMethod yX11_tells ∈ gtbl := gk_37.2.2.2.2.2.2.2.1
set_option maxRecDepth 100000 in
theorem gs_X11_tells : Cond.selects (fR 11) yX11_tells yX11_tells ∈ gtbl := gk_4.2.1
set_option maxRecDepth 100000 in
theorem gp1_X11_tells : (parseMethodDescriptor yX11_tells.desc).map (fun d => d.parameters.length + 1) = some 1 := gp1_X6_ahead
set_option maxRecDepth 100000 in
theorem gc_X11_tells : Cond.code yX11_tells cX11_tells 4 (some .int) ∈ gtbl := gk_37.2.2.2.2.2.2.2.2.1
set_option maxRecDepth 100000 in
theorem gi_X11_tells : Cond.initialized yX11_tells.cls ∈ gtbl := gi_X11_begins
set_option maxRecDepth 100000 in
theorem gh_X11_tells : yX11_tells.cls ≠ "java/lang/invoke/MethodHandle" ∧ yX11_tells.cls ≠ "java/lang/invoke/VarHandle" := gh_X11_begins
set_option maxRecDepth 100000 in
theorem gl_RX11_299 : Cond.methodLink RX11 299 yX11_isEven ∈ gtbl := gk_37.2.2.2.2.2.2.2.2.2.1
set_option maxRecDepth 100000 in
theorem gn_X11_isEven : Cond.instanceMethod yX11_isEven ∈ gtbl := gk_37.2.2.2.2.2.2.2.2.2.2.1
set_option maxRecDepth 100000 in
theorem gs_X11_isEven : Cond.selects (fR 11) yX11_isEven yX11_isEven ∈ gtbl := gk_4.2.2.1
set_option maxRecDepth 100000 in
theorem gp1_X11_isEven : (parseMethodDescriptor yX11_isEven.desc).map (fun d => d.parameters.length + 1) = some 3 := gp1_X7_isGap
set_option maxRecDepth 100000 in
theorem gc_X11_isEven : Cond.code yX11_isEven cX11_isEven 7 (some .boolean) ∈ gtbl := gk_37.2.2.2.2.2.2.2.2.2.2.2.1
set_option maxRecDepth 100000 in
theorem gi_X11_isEven : Cond.initialized yX11_isEven.cls ∈ gtbl := gi_X11_begins
set_option maxRecDepth 100000 in
theorem gh_X11_isEven : yX11_isEven.cls ≠ "java/lang/invoke/MethodHandle" ∧ yX11_isEven.cls ≠ "java/lang/invoke/VarHandle" := gh_X11_begins
set_option maxRecDepth 100000 in
theorem gl_RX11_309 : Cond.methodLink RX11 309 yX11_ends ∈ gtbl := gk_37.2.2.2.2.2.2.2.2.2.2.2.2.2.2.2.1
set_option maxRecDepth 100000 in
theorem gn_X11_ends : Cond.instanceMethod yX11_ends ∈ gtbl := gk_38.1
set_option maxRecDepth 100000 in
theorem gs_X11_ends : Cond.selects (fR 11) yX11_ends yX11_ends ∈ gtbl := gk_4.2.2.2.2.1
set_option maxRecDepth 100000 in
theorem gp1_X11_ends : (parseMethodDescriptor yX11_ends.desc).map (fun d => d.parameters.length + 1) = some 2 := gp1_X1_findEvenSets
set_option maxRecDepth 100000 in
theorem gc_X11_ends : Cond.code yX11_ends cX11_ends 9 none ∈ gtbl := gk_38.2.1
set_option maxRecDepth 100000 in
theorem gi_X11_ends : Cond.initialized yX11_ends.cls ∈ gtbl := gi_X11_begins
set_option maxRecDepth 100000 in
theorem gh_X11_ends : yX11_ends.cls ≠ "java/lang/invoke/MethodHandle" ∧ yX11_ends.cls ≠ "java/lang/invoke/VarHandle" := gh_X11_begins
set_option maxRecDepth 100000 in
theorem gl_RX11_314 : Cond.methodLink RX11 314 yX11_ownEnds ∈ gtbl := gk_37.2.2.2.2.2.2.2.2.2.2.2.2.1
set_option maxRecDepth 100000 in
theorem gn_X11_ownEnds : Cond.instanceMethod yX11_ownEnds ∈ gtbl := gk_37.2.2.2.2.2.2.2.2.2.2.2.2.2.1
set_option maxRecDepth 100000 in
theorem gs_X11_ownEnds : Cond.selects (fR 11) yX11_ownEnds yX11_ownEnds ∈ gtbl := gk_4.2.2.2.1
set_option maxRecDepth 100000 in
theorem gp1_X11_ownEnds : (parseMethodDescriptor yX11_ownEnds.desc).map (fun d => d.parameters.length + 1) = some 1 := gp1_X1_clearTold
set_option maxRecDepth 100000 in
theorem gc_X11_ownEnds : Cond.code yX11_ownEnds cX11_ownEnds 2 none ∈ gtbl := gk_37.2.2.2.2.2.2.2.2.2.2.2.2.2.2.1
set_option maxRecDepth 100000 in
theorem gi_X11_ownEnds : Cond.initialized yX11_ownEnds.cls ∈ gtbl := gi_X11_begins
set_option maxRecDepth 100000 in
theorem gh_X11_ownEnds : yX11_ownEnds.cls ≠ "java/lang/invoke/MethodHandle" ∧ yX11_ownEnds.cls ≠ "java/lang/invoke/VarHandle" := gh_X11_begins
set_option maxRecDepth 100000 in
theorem gl_RX11_317 : Cond.methodLink RX11 317 yX11_lastOf ∈ gtbl := gk_38.2.2.1
set_option maxRecDepth 100000 in
theorem gn_X11_lastOf : Cond.instanceMethod yX11_lastOf ∈ gtbl := gk_38.2.2.2.1
set_option maxRecDepth 100000 in
theorem gs_X11_lastOf : Cond.selects (fR 11) yX11_lastOf yX11_lastOf ∈ gtbl := gk_4.2.2.2.2.2.1
set_option maxRecDepth 100000 in
theorem gp1_X11_lastOf : (parseMethodDescriptor yX11_lastOf.desc).map (fun d => d.parameters.length + 1) = some 2 := gp1_X5_end
set_option maxRecDepth 100000 in
theorem gc_X11_lastOf : Cond.code yX11_lastOf cX11_lastOf 4 (some .int) ∈ gtbl := gk_38.2.2.2.2.1
set_option maxRecDepth 100000 in
theorem gi_X11_lastOf : Cond.initialized yX11_lastOf.cls ∈ gtbl := gi_X11_begins
set_option maxRecDepth 100000 in
theorem gh_X11_lastOf : yX11_lastOf.cls ≠ "java/lang/invoke/MethodHandle" ∧ yX11_lastOf.cls ≠ "java/lang/invoke/VarHandle" := gh_X11_begins
set_option maxRecDepth 100000 in
theorem gl_RX11_320 : Cond.methodLink RX11 320 yX11_gives ∈ gtbl := gk_38.2.2.2.2.2.1
set_option maxRecDepth 100000 in
theorem gn_X11_gives : Cond.instanceMethod yX11_gives ∈ gtbl := gk_38.2.2.2.2.2.2.1
set_option maxRecDepth 100000 in
theorem gs_X11_gives : Cond.selects (fR 11) yX11_gives yX11_gives ∈ gtbl := gk_4.2.2.2.2.2.2.1
set_option maxRecDepth 100000 in
theorem gp1_X11_gives : (parseMethodDescriptor yX11_gives.desc).map (fun d => d.parameters.length + 1) = some 3 := gp1_X3_init
set_option maxRecDepth 100000 in
theorem gc_X11_gives : Cond.code yX11_gives cX11_gives 5 none ∈ gtbl := gk_38.2.2.2.2.2.2.2.1
set_option maxRecDepth 100000 in
theorem gi_X11_gives : Cond.initialized yX11_gives.cls ∈ gtbl := gi_X11_begins
set_option maxRecDepth 100000 in
theorem gh_X11_gives : yX11_gives.cls ≠ "java/lang/invoke/MethodHandle" ∧ yX11_gives.cls ≠ "java/lang/invoke/VarHandle" := gh_X11_begins
set_option maxRecDepth 100000 in
theorem gl_RX11_326 : Cond.methodLink RX11 326 yX11_slot ∈ gtbl := gk_38.2.2.2.2.2.2.2.2.2.2.2.2.2.2.1
set_option maxRecDepth 100000 in
theorem gn_X11_slot : Cond.instanceMethod yX11_slot ∈ gtbl := gk_38.2.2.2.2.2.2.2.2.2.2.2.2.2.2.2.1
set_option maxRecDepth 100000 in
theorem gs_X11_slot : Cond.selects (fR 11) yX11_slot yX11_slot ∈ gtbl := gk_4.2.2.2.2.2.2.2.2.2.1
set_option maxRecDepth 100000 in
theorem gp1_X11_slot : (parseMethodDescriptor yX11_slot.desc).map (fun d => d.parameters.length + 1) = some 6 := by decide +kernel
set_option maxRecDepth 100000 in
theorem gc_X11_slot : Cond.code yX11_slot cX11_slot 8 (some .int) ∈ gtbl := gk_39.1
set_option maxRecDepth 100000 in
theorem gi_X11_slot : Cond.initialized yX11_slot.cls ∈ gtbl := gi_X11_begins
set_option maxRecDepth 100000 in
theorem gh_X11_slot : yX11_slot.cls ≠ "java/lang/invoke/MethodHandle" ∧ yX11_slot.cls ≠ "java/lang/invoke/VarHandle" := gh_X11_begins
set_option maxRecDepth 100000 in
theorem gl_RX11_330 : Cond.methodLink RX11 330 yX11_moves ∈ gtbl := gk_38.2.2.2.2.2.2.2.2.2.2.2.1
set_option maxRecDepth 100000 in
theorem gn_X11_moves : Cond.instanceMethod yX11_moves ∈ gtbl := gk_38.2.2.2.2.2.2.2.2.2.2.2.2.1
set_option maxRecDepth 100000 in
theorem gs_X11_moves : Cond.selects (fR 11) yX11_moves yX11_moves ∈ gtbl := gk_4.2.2.2.2.2.2.2.2.1
set_option maxRecDepth 100000 in
theorem gp1_X11_moves : (parseMethodDescriptor yX11_moves.desc).map (fun d => d.parameters.length + 1) = some 5 := by decide +kernel
set_option maxRecDepth 100000 in
theorem gc_X11_moves : Cond.code yX11_moves cX11_moves 6 (some .int) ∈ gtbl := gk_38.2.2.2.2.2.2.2.2.2.2.2.2.2.1
set_option maxRecDepth 100000 in
theorem gi_X11_moves : Cond.initialized yX11_moves.cls ∈ gtbl := gi_X11_begins
set_option maxRecDepth 100000 in
theorem gh_X11_moves : yX11_moves.cls ≠ "java/lang/invoke/MethodHandle" ∧ yX11_moves.cls ≠ "java/lang/invoke/VarHandle" := gh_X11_begins
set_option maxRecDepth 100000 in
theorem gl_RX11_334 : Cond.methodLink RX11 334 yX11_moveAll ∈ gtbl := gk_38.2.2.2.2.2.2.2.2.1
set_option maxRecDepth 100000 in
theorem gn_X11_moveAll : Cond.instanceMethod yX11_moveAll ∈ gtbl := gk_38.2.2.2.2.2.2.2.2.2.1
set_option maxRecDepth 100000 in
theorem gs_X11_moveAll : Cond.selects (fR 11) yX11_moveAll yX11_moveAll ∈ gtbl := gk_4.2.2.2.2.2.2.2.1
set_option maxRecDepth 100000 in
theorem gp1_X11_moveAll : (parseMethodDescriptor yX11_moveAll.desc).map (fun d => d.parameters.length + 1) = some 3 := gp1_X0_init
set_option maxRecDepth 100000 in
theorem gc_X11_moveAll : Cond.code yX11_moveAll cX11_moveAll 4 none ∈ gtbl := gk_38.2.2.2.2.2.2.2.2.2.2.1
set_option maxRecDepth 100000 in
theorem gi_X11_moveAll : Cond.initialized yX11_moveAll.cls ∈ gtbl := gi_X11_begins
set_option maxRecDepth 100000 in
theorem gh_X11_moveAll : yX11_moveAll.cls ≠ "java/lang/invoke/MethodHandle" ∧ yX11_moveAll.cls ≠ "java/lang/invoke/VarHandle" := gh_X11_begins
