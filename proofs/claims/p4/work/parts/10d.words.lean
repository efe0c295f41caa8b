/-! ===== words of the table, one theorem each ===== -/
def gOK (e : Nat × Cond) : Bool := decide (lw_tbl[e.1]? = some e.2) && goodWord e.2
theorem g_ix {L : List (Nat × Cond)} (h : L.all gOK = true) (k : Nat) {i : Nat} {w : Cond} (hk : L[k]? = some (i, w)) : w ∈ gtbl := by
  have q := List.all_eq_true.mp h _ (List.mem_of_getElem? hk)
  unfold gOK at q
  rw [Bool.and_eq_true] at q
  exact g_at i ⟨of_decide_eq_true q.1, q.2⟩
def gL_0 : List (Nat × Cond) := [(291, Cond.methodLink RX0 18 yJ9_min_7cf53), (108, Cond.static yJ9_min_7cf53), (109, Cond.code yJ9_min_7cf53 prog_15_method_69_code 2 (some .int)), (77, Cond.initialized yJ9_min_7cf53.cls), (292, Cond.methodLink RX0 24 yJ9_max_7cf53), (111, Cond.static yJ9_max_7cf53), (112, Cond.code yJ9_max_7cf53 prog_15_method_65_code 2 (some .int)), (77, Cond.initialized yJ9_max_7cf53.cls), (646, Cond.methodLink RX0 39 yX0_takeFirsts), (648, Cond.instanceMethod yX0_takeFirsts), (16, Cond.selects (fR 0) yX0_takeFirsts yX0_takeFirsts), (649, Cond.code yX0_takeFirsts cX0_takeFirsts 6 none), (81, Cond.initialized yX0_takeFirsts.cls), (674, Cond.methodLink RX0 59 yX0_made), (675, Cond.instanceMethod yX0_made), (676, Cond.selects (fR 0) yX0_made yX0_made), (677, Cond.code yX0_made cX0_made 13 (some .int)), (81, Cond.initialized yX0_made.cls), (721, Cond.methodLink RX0 63 yX7_slipped), (722, Cond.instanceMethod yX7_slipped), (723, Cond.selects (fR 7) yX7_slipped yX7_slipped), (724, Cond.code yX7_slipped cX7_slipped 8 (some .int)), (80, Cond.initialized yX7_slipped.cls), (670, Cond.methodLink RX0 67 yX0_set), (671, Cond.instanceMethod yX0_set), (672, Cond.selects (fR 0) yX0_set yX0_set), (673, Cond.code yX0_set cX0_set 6 none), (81, Cond.initialized yX0_set.cls), (650, Cond.methodLink RX0 71 yX7_isGap), (651, Cond.instanceMethod yX7_isGap), (652, Cond.selects (fR 7) yX7_isGap yX7_isGap), (653, Cond.code yX7_isGap cX7_isGap 3 (some .boolean)), (80, Cond.initialized yX7_isGap.cls), (658, Cond.methodLink RX0 75 yX7_filled), (659, Cond.instanceMethod yX7_filled), (660, Cond.selects (fR 7) yX7_filled yX7_filled), (661, Cond.code yX7_filled cX7_filled 9 (some .int)), (80, Cond.initialized yX7_filled.cls), (669, Cond.methodLink RX0 79 yX7_firstAt), (655, Cond.instanceMethod yX7_firstAt), (656, Cond.selects (fR 7) yX7_firstAt yX7_firstAt), (657, Cond.code yX7_firstAt cX7_firstAt 4 (some .int)), (80, Cond.initialized yX7_firstAt.cls), (678, Cond.methodLink RX0 85 yX0_number), (679, Cond.instanceMethod yX0_number), (680, Cond.selects (fR 0) yX0_number yX0_number), (681, Cond.code yX0_number cX0_number 5 (some .int)), (81, Cond.initialized yX0_number.cls), (683, Cond.methodLink RX0 89 yX5_end), (617, Cond.instanceMethod yX5_end)]
set_option maxRecDepth 100000 in
theorem gT_0 : gL_0.all gOK = true := by decide +kernel
def gL_1 : List (Nat × Cond) := [(618, Cond.selects (fR 5) yX5_end yX5_end), (619, Cond.code yX5_end cX5_end 2 (some .int)), (79, Cond.initialized yX5_end.cls), (684, Cond.methodLink RX0 96 yX0_termMade), (686, Cond.instanceMethod yX0_termMade), (17, Cond.selects (fR 0) yX0_termMade yX0_termMade), (687, Cond.code yX0_termMade cX0_termMade 11 (some .long)), (81, Cond.initialized yX0_termMade.cls), (708, Cond.methodLink RX0 102 yX5_divided), (709, Cond.instanceMethod yX5_divided), (710, Cond.selects (fR 5) yX5_divided yX5_divided), (711, Cond.code yX5_divided cX5_divided 8 (some .int)), (79, Cond.initialized yX5_divided.cls), (688, Cond.methodLink RX0 109 yX0_named), (690, Cond.instanceMethod yX0_named), (18, Cond.selects (fR 0) yX0_named yX0_named), (691, Cond.code yX0_named cX0_named 8 (some .int)), (81, Cond.initialized yX0_named.cls), (704, Cond.methodLink RX0 117 yJ9_abs_067f4), (705, Cond.static yJ9_abs_067f4), (706, Cond.code yJ9_abs_067f4 prog_15_method_61_code 2 (some .long)), (77, Cond.initialized yJ9_abs_067f4.cls), (692, Cond.methodLink RX0 126 yX5_letterOf), (693, Cond.static yX5_letterOf), (694, Cond.code yX5_letterOf cX5_letterOf 1 (some .int)), (79, Cond.initialized yX5_letterOf.cls), (695, Cond.methodLink RX0 129 yX5_sideOf), (696, Cond.static yX5_sideOf), (697, Cond.code yX5_sideOf cX5_sideOf 1 (some .int)), (79, Cond.initialized yX5_sideOf.cls), (698, Cond.methodLink RX0 132 yX3_beside), (663, Cond.instanceMethod yX3_beside), (664, Cond.selects (fR 3) yX3_beside yX3_beside), (665, Cond.code yX3_beside cX3_beside 4 (some .int)), (76, Cond.initialized yX3_beside.cls), (699, Cond.methodLink RX0 138 yX5_isNow), (700, Cond.static yX5_isNow), (701, Cond.code yX5_isNow cX5_isNow 1 (some .boolean)), (79, Cond.initialized yX5_isNow.cls), (777, Cond.methodLink RX0 145 yX0_counted), (779, Cond.instanceMethod yX0_counted), (24, Cond.selects (fR 0) yX0_counted yX0_counted), (780, Cond.code yX0_counted cX0_counted 5 (some .int)), (81, Cond.initialized yX0_counted.cls), (330, Cond.methodLink RX1 28 yX1_clearTold), (331, Cond.instanceMethod yX1_clearTold), (332, Cond.selects (fR 1) yX1_clearTold yX1_clearTold), (333, Cond.code yX1_clearTold cX1_clearTold 2 none), (83, Cond.initialized yX1_clearTold.cls), (861, Cond.methodLink RX1 45 yX0_rowSum)]
set_option maxRecDepth 100000 in
theorem gT_1 : gL_1.all gOK = true := by decide +kernel
def gL_2 : List (Nat × Cond) := [(774, Cond.instanceMethod yX0_rowSum), (775, Cond.selects (fR 0) yX0_rowSum yX0_rowSum), (776, Cond.code yX0_rowSum cX0_rowSum 8 (some .long)), (81, Cond.initialized yX0_rowSum.cls), (862, Cond.methodLink RX1 54 yX0_columnSum), (863, Cond.instanceMethod yX0_columnSum), (864, Cond.selects (fR 0) yX0_columnSum yX0_columnSum), (865, Cond.code yX0_columnSum cX0_columnSum 8 (some .long)), (81, Cond.initialized yX0_columnSum.cls), (878, Cond.methodLink RX1 57 yX1_addLack), (880, Cond.instanceMethod yX1_addLack), (29, Cond.selects (fR 1) yX1_addLack yX1_addLack), (881, Cond.code yX1_addLack cX1_addLack 4 (some .int)), (83, Cond.initialized yX1_addLack.cls), (882, Cond.methodLink RX1 61 yX1_mostParts), (884, Cond.instanceMethod yX1_mostParts), (30, Cond.selects (fR 1) yX1_mostParts yX1_mostParts), (885, Cond.code yX1_mostParts cX1_mostParts 5 (some .int)), (83, Cond.initialized yX1_mostParts.cls), (886, Cond.methodLink RX1 65 yX1_findEvenSets), (888, Cond.instanceMethod yX1_findEvenSets), (31, Cond.selects (fR 1) yX1_findEvenSets yX1_findEvenSets), (889, Cond.code yX1_findEvenSets cX1_findEvenSets 7 none), (83, Cond.initialized yX1_findEvenSets.cls), (894, Cond.methodLink RX1 69 yX1_partsOf), (896, Cond.instanceMethod yX1_partsOf), (32, Cond.selects (fR 1) yX1_partsOf yX1_partsOf), (897, Cond.code yX1_partsOf cX1_partsOf 7 (some .int)), (83, Cond.initialized yX1_partsOf.cls), (898, Cond.methodLink RX1 72 yJ9_max_7cf53), (890, Cond.methodLink RX1 77 yJ6_numberOfTrailingZeros_0f7a4), (891, Cond.static yJ6_numberOfTrailingZeros_0f7a4), (892, Cond.code yJ6_numberOfTrailingZeros_0f7a4 prog_14_method_48_code 2 (some .int)), (88, Cond.initialized yJ6_numberOfTrailingZeros_0f7a4.cls), (103, Cond.methodLink RX3 15 yX3_shape), (104, Cond.instanceMethod yX3_shape), (105, Cond.selects (fR 3) yX3_shape yX3_shape), (106, Cond.code yX3_shape cX3_shape 7 none), (76, Cond.initialized yX3_shape.cls), (107, Cond.methodLink RX3 19 yJ9_min_7cf53), (110, Cond.methodLink RX3 25 yJ9_max_7cf53), (113, Cond.methodLink RX3 38 yX3_found), (115, Cond.instanceMethod yX3_found), (0, Cond.selects (fR 3) yX3_found yX3_found), (116, Cond.code yX3_found cX3_found 7 (some .int)), (76, Cond.initialized yX3_found.cls), (737, Cond.methodLink RX4 24 yX4_markGaps), (739, Cond.instanceMethod yX4_markGaps), (19, Cond.selects (fR 4) yX4_markGaps yX4_markGaps), (740, Cond.code yX4_markGaps cX4_markGaps 4 none)]
set_option maxRecDepth 100000 in
theorem gT_2 : gL_2.all gOK = true := by decide +kernel
def gL_3 : List (Nat × Cond) := [(82, Cond.initialized yX4_markGaps.cls), (746, Cond.methodLink RX4 28 yX4_markCell), (748, Cond.instanceMethod yX4_markCell), (21, Cond.selects (fR 4) yX4_markCell yX4_markCell), (749, Cond.code yX4_markCell cX4_markCell 7 none), (82, Cond.initialized yX4_markCell.cls), (741, Cond.methodLink RX4 32 yX7_isGap), (742, Cond.methodLink RX4 38 yX4_mark), (744, Cond.instanceMethod yX4_mark), (20, Cond.selects (fR 4) yX4_mark yX4_mark), (745, Cond.code yX4_mark cX4_mark 5 none), (82, Cond.initialized yX4_mark.cls), (750, Cond.methodLink RX4 51 yX4_leans), (752, Cond.instanceMethod yX4_leans), (22, Cond.selects (fR 4) yX4_leans yX4_leans), (753, Cond.code yX4_leans cX4_leans 7 (some .boolean)), (82, Cond.initialized yX4_leans.cls), (754, Cond.methodLink RX4 58 yX4_has), (755, Cond.instanceMethod yX4_has), (756, Cond.selects (fR 4) yX4_has yX4_has), (757, Cond.code yX4_has cX4_has 5 (some .boolean)), (82, Cond.initialized yX4_has.cls), (758, Cond.methodLink RX4 65 yX5_end), (759, Cond.methodLink RX4 72 yX4_isMarked), (761, Cond.instanceMethod yX4_isMarked), (23, Cond.selects (fR 4) yX4_isMarked yX4_isMarked), (762, Cond.code yX4_isMarked cX4_isMarked 6 (some .boolean)), (82, Cond.initialized yX4_isMarked.cls), (763, Cond.methodLink RX4 79 yX5_sideOf), (764, Cond.methodLink RX4 82 yX3_beside), (765, Cond.methodLink RX4 86 yX5_isNow), (766, Cond.methodLink RX4 90 yX5_letterOf), (154, Cond.methodLink RX5 40 yX5_clear), (155, Cond.instanceMethod yX5_clear), (156, Cond.selects (fR 5) yX5_clear yX5_clear), (157, Cond.code yX5_clear cX5_clear 2 none), (79, Cond.initialized yX5_clear.cls), (620, Cond.methodLink RX5 50 yJ9_min_7cf53), (616, Cond.methodLink RX5 56 yX5_end), (824, Cond.methodLink RX5 60 yX5_letterOf), (825, Cond.methodLink RX5 63 yX5_isNow), (826, Cond.methodLink RX5 67 yX5_hasProduct), (613, Cond.instanceMethod yX5_hasProduct), (614, Cond.selects (fR 5) yX5_hasProduct yX5_hasProduct), (615, Cond.code yX5_hasProduct cX5_hasProduct 3 (some .boolean)), (79, Cond.initialized yX5_hasProduct.cls), (835, Cond.methodLink RX5 70 yJ9_abs_0f7a4), (836, Cond.static yJ9_abs_0f7a4), (837, Cond.code yJ9_abs_0f7a4 prog_15_method_59_code 1 (some .int)), (77, Cond.initialized yJ9_abs_0f7a4.cls)]
set_option maxRecDepth 100000 in
theorem gT_3 : gL_3.all gOK = true := by decide +kernel
def gL_4 : List (Nat × Cond) := [(716, Cond.methodLink RX5 80 yJ9_floorDiv_f86c9), (717, Cond.static yJ9_floorDiv_f86c9), (718, Cond.code yJ9_floorDiv_f86c9 prog_15_method_49_code 6 (some .long)), (77, Cond.initialized yJ9_floorDiv_f86c9.cls), (150, Cond.methodLink RX6 17 yX5_init), (151, Cond.instanceMethod yX5_init), (152, Cond.code yX5_init cX5_init 1 none), (79, Cond.initialized yX5_init.cls), (553, Cond.methodLink RX6 26 yX5_clear), (554, Cond.methodLink RX6 32 yX6_readLine), (556, Cond.instanceMethod yX6_readLine), (5, Cond.selects (fR 6) yX6_readLine yX6_readLine), (557, Cond.code yX6_readLine cX6_readLine 3 (some .boolean)), (78, Cond.initialized yX6_readLine.cls), (558, Cond.methodLink RX6 39 yX6_ahead), (560, Cond.instanceMethod yX6_ahead), (6, Cond.selects (fR 6) yX6_ahead yX6_ahead), (561, Cond.code yX6_ahead cX6_ahead 1 (some .int)), (78, Cond.initialized yX6_ahead.cls), (525, Cond.static yX10_isLetter), (526, Cond.code yX10_isLetter cX10_isLetter 1 (some .boolean)), (75, Cond.initialized yX10_isLetter.cls), (563, Cond.methodLink RX6 50 yX6_refuse), (565, Cond.instanceMethod yX6_refuse), (7, Cond.selects (fR 6) yX6_refuse yX6_refuse), (566, Cond.code yX6_refuse cX6_refuse 2 (some .boolean)), (78, Cond.initialized yX6_refuse.cls), (567, Cond.methodLink RX6 53 yX6_pass), (569, Cond.instanceMethod yX6_pass), (8, Cond.selects (fR 6) yX6_pass yX6_pass), (570, Cond.code yX6_pass cX6_pass 2 (some .boolean)), (78, Cond.initialized yX6_pass.cls), (571, Cond.methodLink RX6 62 yX6_readTerm), (573, Cond.instanceMethod yX6_readTerm), (9, Cond.selects (fR 6) yX6_readTerm yX6_readTerm), (574, Cond.code yX6_readTerm cX6_readTerm 5 (some .boolean)), (78, Cond.initialized yX6_readTerm.cls), (579, Cond.methodLink RX6 65 yX6_readNumber), (581, Cond.instanceMethod yX6_readNumber), (11, Cond.selects (fR 6) yX6_readNumber yX6_readNumber), (582, Cond.code yX6_readNumber cX6_readNumber 5 (some .boolean)), (78, Cond.initialized yX6_readNumber.cls), (596, Cond.methodLink RX6 78 yX5_closeLine), (597, Cond.instanceMethod yX5_closeLine), (598, Cond.selects (fR 5) yX5_closeLine yX5_closeLine), (599, Cond.code yX5_closeLine cX5_closeLine 4 none), (79, Cond.initialized yX5_closeLine.cls), (575, Cond.methodLink RX6 82 yX6_isFigure), (577, Cond.instanceMethod yX6_isFigure), (10, Cond.selects (fR 6) yX6_isFigure yX6_isFigure)]
set_option maxRecDepth 100000 in
theorem gT_4 : gL_4.all gOK = true := by decide +kernel
def gL_5 : List (Nat × Cond) := [(578, Cond.code yX6_isFigure cX6_isFigure 1 (some .boolean)), (78, Cond.initialized yX6_isFigure.cls), (584, Cond.methodLink RX6 85 yX6_readName), (586, Cond.instanceMethod yX6_readName), (12, Cond.selects (fR 6) yX6_readName yX6_readName), (587, Cond.code yX6_readName cX6_readName 4 (some .boolean)), (78, Cond.initialized yX6_readName.cls), (592, Cond.methodLink RX6 88 yX5_addTerm), (593, Cond.instanceMethod yX5_addTerm), (594, Cond.selects (fR 5) yX5_addTerm yX5_addTerm), (595, Cond.code yX5_addTerm cX5_addTerm 4 none), (79, Cond.initialized yX5_addTerm.cls), (583, Cond.methodLink RX6 92 yJ9_min_7cf53), (588, Cond.methodLink RX6 98 yX6_sideAhead), (590, Cond.instanceMethod yX6_sideAhead), (13, Cond.selects (fR 6) yX6_sideAhead yX6_sideAhead), (591, Cond.code yX6_sideAhead cX6_sideAhead 1 (some .int)), (78, Cond.initialized yX6_sideAhead.cls), (242, Cond.methodLink RX7 11 yX5_init), (243, Cond.methodLink RX7 37 yX7_clearFirsts), (244, Cond.instanceMethod yX7_clearFirsts), (245, Cond.selects (fR 7) yX7_clearFirsts yX7_clearFirsts), (246, Cond.code yX7_clearFirsts cX7_clearFirsts 2 none), (80, Cond.initialized yX7_clearFirsts.cls), (1031, Cond.methodLink RX7 41 yX5_takeAll), (605, Cond.instanceMethod yX5_takeAll), (606, Cond.selects (fR 5) yX5_takeAll yX5_takeAll), (607, Cond.code yX5_takeAll cX5_takeAll 3 none), (79, Cond.initialized yX5_takeAll.cls), (654, Cond.methodLink RX7 55 yX7_firstAt), (662, Cond.methodLink RX7 59 yX3_beside), (666, Cond.methodLink RX7 64 yJ9_floorDiv_7cf53), (667, Cond.static yJ9_floorDiv_7cf53), (668, Cond.code yJ9_floorDiv_7cf53 prog_15_method_47_code 3 (some .int)), (77, Cond.initialized yJ9_floorDiv_7cf53.cls), (379, Cond.instanceMethod yX9_init), (380, Cond.code yX9_init cX9_init 1 none), (85, Cond.initialized yX9_init.cls), (973, Cond.methodLink RX8 38 yX9_deal), (974, Cond.instanceMethod yX9_deal), (975, Cond.selects (fR 9) yX9_deal yX9_deal), (976, Cond.code yX9_deal cX9_deal 6 none), (85, Cond.initialized yX9_deal.cls), (978, Cond.methodLink RX8 42 yX9_endsAhead), (979, Cond.instanceMethod yX9_endsAhead), (980, Cond.selects (fR 9) yX9_endsAhead yX9_endsAhead), (981, Cond.code yX9_endsAhead cX9_endsAhead 6 (some .boolean)), (85, Cond.initialized yX9_endsAhead.cls), (992, Cond.methodLink RX8 46 yX8_take), (994, Cond.instanceMethod yX8_take)]
set_option maxRecDepth 100000 in
theorem gT_5 : gL_5.all gOK = true := by decide +kernel
def gL_6 : List (Nat × Cond) := [(38, Cond.selects (fR 8) yX8_take yX8_take), (995, Cond.code yX8_take cX8_take 3 none), (86, Cond.initialized yX8_take.cls), (996, Cond.methodLink RX8 50 yX9_lastMinute), (956, Cond.instanceMethod yX9_lastMinute), (957, Cond.selects (fR 9) yX9_lastMinute yX9_lastMinute), (958, Cond.code yX9_lastMinute cX9_lastMinute 5 (some .int)), (85, Cond.initialized yX9_lastMinute.cls), (483, Cond.methodLink RX9 28 yX9_restart), (484, Cond.instanceMethod yX9_restart), (485, Cond.selects (fR 9) yX9_restart yX9_restart), (486, Cond.code yX9_restart cX9_restart 2 none), (85, Cond.initialized yX9_restart.cls), (937, Cond.methodLink RX9 31 yX9_work), (939, Cond.instanceMethod yX9_work), (34, Cond.selects (fR 9) yX9_work yX9_work), (940, Cond.code yX9_work cX9_work 8 none), (85, Cond.initialized yX9_work.cls), (941, Cond.methodLink RX9 40 yX9_notesCome), (943, Cond.instanceMethod yX9_notesCome), (35, Cond.selects (fR 9) yX9_notesCome yX9_notesCome), (944, Cond.code yX9_notesCome cX9_notesCome 9 (some .int)), (85, Cond.initialized yX9_notesCome.cls), (950, Cond.methodLink RX9 44 yJ9_max_7cf53), (951, Cond.methodLink RX9 50 yX2_paceOf), (952, Cond.instanceMethod yX2_paceOf), (953, Cond.selects (fR 2) yX2_paceOf yX2_paceOf), (954, Cond.code yX2_paceOf cX2_paceOf 2 (some .int)), (84, Cond.initialized yX2_paceOf.cls), (945, Cond.methodLink RX9 56 yX3_beside), (946, Cond.methodLink RX9 62 yX9_ended), (947, Cond.instanceMethod yX9_ended), (948, Cond.selects (fR 9) yX9_ended yX9_ended), (949, Cond.code yX9_ended cX9_ended 4 (some .int)), (85, Cond.initialized yX9_ended.cls), (977, Cond.methodLink RX9 65 yJ9_min_7cf53), (982, Cond.methodLink RX9 68 yX9_addLoads), (984, Cond.instanceMethod yX9_addLoads), (36, Cond.selects (fR 9) yX9_addLoads yX9_addLoads), (985, Cond.code yX9_addLoads cX9_addLoads 5 none), (85, Cond.initialized yX9_addLoads.cls), (986, Cond.methodLink RX9 72 yX9_isTooSlow), (988, Cond.instanceMethod yX9_isTooSlow), (37, Cond.selects (fR 9) yX9_isTooSlow yX9_isTooSlow), (989, Cond.code yX9_isTooSlow cX9_isTooSlow 4 (some .boolean)), (85, Cond.initialized yX9_isTooSlow.cls), (990, Cond.methodLink RX9 76 yX9_reach), (934, Cond.instanceMethod yX9_reach), (935, Cond.selects (fR 9) yX9_reach yX9_reach), (936, Cond.code yX9_reach cX9_reach 5 none)]
set_option maxRecDepth 100000 in
theorem gT_6 : gL_6.all gOK = true := by decide +kernel
def gL_7 : List (Nat × Cond) := [(85, Cond.initialized yX9_reach.cls), (991, Cond.methodLink RX9 79 yX9_lastMinute), (99, Cond.methodLink RX10 9 yX3_init), (100, Cond.instanceMethod yX3_init), (101, Cond.code yX3_init cX3_init 3 none), (76, Cond.initialized yX3_init.cls), (145, Cond.instanceMethod yX6_init), (146, Cond.code yX6_init cX6_init 1 none), (78, Cond.initialized yX6_init.cls), (237, Cond.methodLink RX10 30 yX7_init), (238, Cond.instanceMethod yX7_init), (239, Cond.code yX7_init cX7_init 1 none), (80, Cond.initialized yX7_init.cls), (287, Cond.methodLink RX10 41 yX0_init), (288, Cond.instanceMethod yX0_init), (289, Cond.code yX0_init cX0_init 3 none), (81, Cond.initialized yX0_init.cls), (314, Cond.instanceMethod yX4_init), (315, Cond.code yX4_init cX4_init 1 none), (82, Cond.initialized yX4_init.cls), (326, Cond.methodLink RX10 66 yX1_init), (327, Cond.instanceMethod yX1_init), (328, Cond.code yX1_init cX1_init 1 none), (83, Cond.initialized yX1_init.cls), (362, Cond.methodLink RX10 73 yX2_init), (363, Cond.instanceMethod yX2_init), (364, Cond.code yX2_init cX2_init 2 none), (84, Cond.initialized yX2_init.cls), (403, Cond.instanceMethod yX8_init), (404, Cond.code yX8_init cX8_init 1 none), (86, Cond.initialized yX8_init.cls), (476, Cond.methodLink RX10 96 yX3_shape), (477, Cond.methodLink RX10 100 yX7_clearFirsts), (478, Cond.methodLink RX10 109 yX1_clearTold), (479, Cond.methodLink RX10 112 yX9_giveAllToFirst), (480, Cond.instanceMethod yX9_giveAllToFirst), (481, Cond.selects (fR 9) yX9_giveAllToFirst yX9_giveAllToFirst), (482, Cond.code yX9_giveAllToFirst cX9_giveAllToFirst 2 none), (85, Cond.initialized yX9_giveAllToFirst.cls), (487, Cond.methodLink RX10 115 yX10_forgetNumbers), (489, Cond.instanceMethod yX10_forgetNumbers), (1, Cond.selects (fR 10) yX10_forgetNumbers yX10_forgetNumbers), (490, Cond.code yX10_forgetNumbers cX10_forgetNumbers 1 none), (75, Cond.initialized yX10_forgetNumbers.cls), (503, Cond.methodLink RX10 118 yX10_forgetTimes), (505, Cond.instanceMethod yX10_forgetTimes), (3, Cond.selects (fR 10) yX10_forgetTimes yX10_forgetTimes), (506, Cond.code yX10_forgetTimes cX10_forgetTimes 1 none), (75, Cond.initialized yX10_forgetTimes.cls), (516, Cond.methodLink RX10 124 yX10_reshape)]
set_option maxRecDepth 100000 in
theorem gT_7 : gL_7.all gOK = true := by decide +kernel
def gL_8 : List (Nat × Cond) := [(518, Cond.instanceMethod yX10_reshape), (4, Cond.selects (fR 10) yX10_reshape yX10_reshape), (519, Cond.code yX10_reshape cX10_reshape 1 none), (75, Cond.initialized yX10_reshape.cls), (524, Cond.methodLink RX10 130 yX10_isLetter), (527, Cond.methodLink RX10 134 yX10_isTold), (528, Cond.static yX10_isTold), (529, Cond.code yX10_isTold cX10_isTold 1 (some .boolean)), (75, Cond.initialized yX10_isTold.cls), (537, Cond.methodLink RX10 145 yX6_append), (538, Cond.instanceMethod yX6_append), (539, Cond.selects (fR 6) yX6_append yX6_append), (540, Cond.code yX6_append cX6_append 2 none), (78, Cond.initialized yX6_append.cls), (549, Cond.methodLink RX10 149 yX6_read), (550, Cond.instanceMethod yX6_read), (551, Cond.selects (fR 6) yX6_read yX6_read), (552, Cond.code yX6_read cX6_read 2 (some .int)), (78, Cond.initialized yX6_read.cls), (604, Cond.methodLink RX10 158 yX5_takeAll), (612, Cond.methodLink RX10 180 yX5_hasProduct), (625, Cond.methodLink RX10 183 yX10_isCell), (627, Cond.instanceMethod yX10_isCell), (14, Cond.selects (fR 10) yX10_isCell yX10_isCell), (628, Cond.code yX10_isCell cX10_isCell 2 (some .boolean)), (75, Cond.initialized yX10_isCell.cls), (634, Cond.methodLink RX10 190 yX10_isStep), (635, Cond.static yX10_isStep), (636, Cond.code yX10_isStep cX10_isStep 1 (some .boolean)), (75, Cond.initialized yX10_isStep.cls), (638, Cond.methodLink RX10 194 yX10_reckoned), (640, Cond.instanceMethod yX10_reckoned), (15, Cond.selects (fR 10) yX10_reckoned yX10_reckoned), (641, Cond.code yX10_reckoned cX10_reckoned 4 (some (.object "ForecastHall$Board"))), (75, Cond.initialized yX10_reckoned.cls), (728, Cond.methodLink RX10 198 yX0_number), (733, Cond.methodLink RX10 202 yX4_reach), (734, Cond.instanceMethod yX4_reach), (735, Cond.selects (fR 4) yX4_reach yX4_reach), (736, Cond.code yX4_reach cX4_reach 7 none), (82, Cond.initialized yX4_reach.cls), (767, Cond.methodLink RX10 206 yX4_has), (773, Cond.methodLink RX10 215 yX0_rowSum), (785, Cond.methodLink RX10 219 yX10_isLaterStep), (786, Cond.static yX10_isLaterStep), (787, Cond.code yX10_isLaterStep cX10_isLaterStep 1 (some .boolean)), (75, Cond.initialized yX10_isLaterStep.cls), (788, Cond.methodLink RX10 222 yX7_addSlip), (789, Cond.instanceMethod yX7_addSlip), (790, Cond.selects (fR 7) yX7_addSlip yX7_addSlip)]
set_option maxRecDepth 100000 in
theorem gT_8 : gL_8.all gOK = true := by decide +kernel
def gL_9 : List (Nat × Cond) := [(791, Cond.code yX7_addSlip cX7_addSlip 5 none), (80, Cond.initialized yX7_addSlip.cls), (499, Cond.methodLink RX10 226 yX10_forgetSlips), (501, Cond.instanceMethod yX10_forgetSlips), (2, Cond.selects (fR 10) yX10_forgetSlips yX10_forgetSlips), (502, Cond.code yX10_forgetSlips cX10_forgetSlips 1 none), (75, Cond.initialized yX10_forgetSlips.cls), (800, Cond.methodLink RX10 229 yX10_reckonWithout), (802, Cond.instanceMethod yX10_reckonWithout), (25, Cond.selects (fR 10) yX10_reckonWithout yX10_reckonWithout), (803, Cond.code yX10_reckonWithout cX10_reckonWithout 3 none), (75, Cond.initialized yX10_reckonWithout.cls), (804, Cond.methodLink RX10 232 yX10_otherwiseUpTo), (806, Cond.instanceMethod yX10_otherwiseUpTo), (26, Cond.selects (fR 10) yX10_otherwiseUpTo yX10_otherwiseUpTo), (807, Cond.code yX10_otherwiseUpTo cX10_otherwiseUpTo 4 (some .int)), (75, Cond.initialized yX10_otherwiseUpTo.cls), (812, Cond.methodLink RX10 236 yX10_lastOtherwise), (814, Cond.instanceMethod yX10_lastOtherwise), (28, Cond.selects (fR 10) yX10_lastOtherwise yX10_lastOtherwise), (815, Cond.code yX10_lastOtherwise cX10_lastOtherwise 3 (some .int)), (75, Cond.initialized yX10_lastOtherwise.cls), (808, Cond.methodLink RX10 239 yX10_otherwiseIn), (810, Cond.instanceMethod yX10_otherwiseIn), (27, Cond.selects (fR 10) yX10_otherwiseIn yX10_otherwiseIn), (811, Cond.code yX10_otherwiseIn cX10_otherwiseIn 5 (some .int)), (75, Cond.initialized yX10_otherwiseIn.cls), (820, Cond.methodLink RX10 242 yX5_keepsSum), (821, Cond.instanceMethod yX5_keepsSum), (822, Cond.selects (fR 5) yX5_keepsSum yX5_keepsSum), (823, Cond.code yX5_keepsSum cX5_keepsSum 4 (some .boolean)), (79, Cond.initialized yX5_keepsSum.cls), (831, Cond.methodLink RX10 245 yX5_staysSmall), (832, Cond.instanceMethod yX5_staysSmall), (833, Cond.selects (fR 5) yX5_staysSmall yX5_staysSmall), (834, Cond.code yX5_staysSmall cX5_staysSmall 4 (some .boolean)), (79, Cond.initialized yX5_staysSmall.cls), (845, Cond.methodLink RX10 257 yX1_keepSum), (846, Cond.instanceMethod yX1_keepSum), (847, Cond.selects (fR 1) yX1_keepSum yX1_keepSum), (848, Cond.code yX1_keepSum cX1_keepSum 7 none), (83, Cond.initialized yX1_keepSum.cls), (853, Cond.methodLink RX10 261 yX1_toldSums), (854, Cond.instanceMethod yX1_toldSums), (855, Cond.selects (fR 1) yX1_toldSums yX1_toldSums), (856, Cond.code yX1_toldSums cX1_toldSums 3 (some .int)), (83, Cond.initialized yX1_toldSums.cls), (857, Cond.methodLink RX10 267 yX1_failing), (858, Cond.instanceMethod yX1_failing), (859, Cond.selects (fR 1) yX1_failing yX1_failing)]
set_option maxRecDepth 100000 in
theorem gT_9 : gL_9.all gOK = true := by decide +kernel
def gL_10 : List (Nat × Cond) := [(860, Cond.code yX1_failing cX1_failing 5 (some .int)), (83, Cond.initialized yX1_failing.cls), (870, Cond.methodLink RX10 271 yX1_agree), (871, Cond.instanceMethod yX1_agree), (872, Cond.selects (fR 1) yX1_agree yX1_agree), (873, Cond.code yX1_agree cX1_agree 4 (some .boolean)), (83, Cond.initialized yX1_agree.cls), (874, Cond.methodLink RX10 275 yX1_fewestCells), (875, Cond.instanceMethod yX1_fewestCells), (876, Cond.selects (fR 1) yX1_fewestCells yX1_fewestCells), (877, Cond.code yX1_fewestCells cX1_fewestCells 6 (some .int)), (83, Cond.initialized yX1_fewestCells.cls), (903, Cond.methodLink RX10 278 yX0_made), (918, Cond.methodLink RX10 287 yX10_isPerson), (919, Cond.static yX10_isPerson), (920, Cond.code yX10_isPerson cX10_isPerson 1 (some .boolean)), (75, Cond.initialized yX10_isPerson.cls), (507, Cond.methodLink RX10 296 yX9_restart), (929, Cond.methodLink RX10 299 yX10_isCellOrAll), (931, Cond.instanceMethod yX10_isCellOrAll), (33, Cond.selects (fR 10) yX10_isCellOrAll yX10_isCellOrAll), (932, Cond.code yX10_isCellOrAll cX10_isCellOrAll 2 (some .boolean)), (75, Cond.initialized yX10_isCellOrAll.cls), (933, Cond.methodLink RX10 302 yX9_reach), (955, Cond.methodLink RX10 305 yX9_lastMinute), (959, Cond.methodLink RX10 309 yX9_ended), (968, Cond.methodLink RX10 313 yX8_find), (969, Cond.instanceMethod yX8_find), (970, Cond.selects (fR 8) yX8_find yX8_find), (971, Cond.code yX8_find cX8_find 7 none), (86, Cond.initialized yX8_find.cls), (1006, Cond.methodLink RX10 323 yX10_reckonSmall), (1008, Cond.instanceMethod yX10_reckonSmall), (39, Cond.selects (fR 10) yX10_reckonSmall yX10_reckonSmall), (1009, Cond.code yX10_reckonSmall cX10_reckonSmall 4 none), (75, Cond.initialized yX10_reckonSmall.cls), (1018, Cond.methodLink RX10 326 yX10_isOff), (1020, Cond.instanceMethod yX10_isOff), (41, Cond.selects (fR 10) yX10_isOff yX10_isOff), (1021, Cond.code yX10_isOff cX10_isOff 7 (some .boolean)), (75, Cond.initialized yX10_isOff.cls), (1027, Cond.methodLink RX10 330 yX7_copyFrom), (1028, Cond.instanceMethod yX7_copyFrom), (1029, Cond.selects (fR 7) yX7_copyFrom yX7_copyFrom), (1030, Cond.code yX7_copyFrom cX7_copyFrom 3 none), (80, Cond.initialized yX7_copyFrom.cls), (1040, Cond.methodLink RX10 334 yX7_gaps), (1041, Cond.instanceMethod yX7_gaps), (1042, Cond.selects (fR 7) yX7_gaps yX7_gaps), (1043, Cond.code yX7_gaps cX7_gaps 4 (some .int))]
set_option maxRecDepth 100000 in
theorem gT_10 : gL_10.all gOK = true := by decide +kernel
def gL_11 : List (Nat × Cond) := [(80, Cond.initialized yX7_gaps.cls), (491, Cond.methodLink RX10 338 yX0_restart), (492, Cond.instanceMethod yX0_restart), (493, Cond.selects (fR 0) yX0_restart yX0_restart), (494, Cond.code yX0_restart cX0_restart 1 none), (81, Cond.initialized yX0_restart.cls), (495, Cond.methodLink RX10 339 yX4_restart), (496, Cond.instanceMethod yX4_restart), (497, Cond.selects (fR 4) yX4_restart yX4_restart), (498, Cond.code yX4_restart cX4_restart 1 none), (82, Cond.initialized yX4_restart.cls), (508, Cond.methodLink RX10 340 yX8_restart), (509, Cond.instanceMethod yX8_restart), (510, Cond.selects (fR 8) yX8_restart yX8_restart), (511, Cond.code yX8_restart cX8_restart 1 none), (86, Cond.initialized yX8_restart.cls), (642, Cond.methodLink RX10 341 yX0_reach), (643, Cond.instanceMethod yX0_reach), (644, Cond.selects (fR 0) yX0_reach yX0_reach), (645, Cond.code yX0_reach cX0_reach 9 none), (81, Cond.initialized yX0_reach.cls), (1010, Cond.methodLink RX10 348 yX10_meanOfFour), (1012, Cond.instanceMethod yX10_meanOfFour), (40, Cond.selects (fR 10) yX10_meanOfFour yX10_meanOfFour), (1013, Cond.code yX10_meanOfFour cX10_meanOfFour 11 (some .int)), (75, Cond.initialized yX10_meanOfFour.cls), (1017, Cond.methodLink RX10 351 yX0_set), (1016, Cond.methodLink RX10 357 yJ9_floorDiv_f86c9), (1022, Cond.methodLink RX10 363 yJ9_abs_067f4), (1050, Cond.methodLink RX11 112 yX11_begins), (1052, Cond.instanceMethod yX11_begins), (42, Cond.selects (fR 11) yX11_begins yX11_begins), (1053, Cond.code yX11_begins cX11_begins 2 none), (87, Cond.initialized yX11_begins.cls), (1055, Cond.methodLink RX11 119 yX11_clears), (1057, Cond.instanceMethod yX11_clears), (43, Cond.selects (fR 11) yX11_clears yX11_clears), (1058, Cond.code yX11_clears cX11_clears 2 none), (87, Cond.initialized yX11_clears.cls), (1208, Cond.methodLink RX11 124 yX11_cells), (1210, Cond.instanceMethod yX11_cells), (44, Cond.selects (fR 11) yX11_cells yX11_cells), (1211, Cond.code yX11_cells cX11_cells 1 (some .int)), (87, Cond.initialized yX11_cells.cls), (1205, Cond.methodLink RX11 128 yX11_in), (1206, Cond.static yX11_in), (1207, Cond.code yX11_in cX11_in 6 (some .boolean)), (87, Cond.initialized yX11_in.cls), (1221, Cond.methodLink RX11 146 yX11_isLetter), (1222, Cond.static yX11_isLetter)]
set_option maxRecDepth 100000 in
theorem gT_11 : gL_11.all gOK = true := by decide +kernel
def gL_12 : List (Nat × Cond) := [(1223, Cond.code yX11_isLetter cX11_isLetter 1 (some .boolean)), (87, Cond.initialized yX11_isLetter.cls), (1250, Cond.methodLink RX11 168 yX11_byteAt), (1252, Cond.instanceMethod yX11_byteAt), (47, Cond.selects (fR 11) yX11_byteAt yX11_byteAt), (1253, Cond.code yX11_byteAt cX11_byteAt 2 (some .int)), (87, Cond.initialized yX11_byteAt.cls), (1254, Cond.methodLink RX11 177 yX11_fails), (1256, Cond.instanceMethod yX11_fails), (48, Cond.selects (fR 11) yX11_fails yX11_fails), (1257, Cond.code yX11_fails cX11_fails 2 none), (87, Cond.initialized yX11_fails.cls), (1262, Cond.methodLink RX11 184 yX11_number), (1264, Cond.instanceMethod yX11_number), (50, Cond.selects (fR 11) yX11_number yX11_number), (1265, Cond.code yX11_number cX11_number 4 (some .int)), (87, Cond.initialized yX11_number.cls), (1269, Cond.methodLink RX11 190 yX11_name), (1271, Cond.instanceMethod yX11_name), (51, Cond.selects (fR 11) yX11_name yX11_name), (1272, Cond.code yX11_name cX11_name 7 (some .int)), (87, Cond.initialized yX11_name.cls), (1258, Cond.methodLink RX11 193 yX11_term), (1260, Cond.instanceMethod yX11_term), (49, Cond.selects (fR 11) yX11_term yX11_term), (1261, Cond.code yX11_term cX11_term 4 none), (87, Cond.initialized yX11_term.cls), (1246, Cond.methodLink RX11 197 yX11_readLine), (1248, Cond.instanceMethod yX11_readLine), (46, Cond.selects (fR 11) yX11_readLine yX11_readLine), (1249, Cond.code yX11_readLine cX11_readLine 6 none), (87, Cond.initialized yX11_readLine.cls), (1242, Cond.methodLink RX11 200 yX11_faultOf), (1244, Cond.instanceMethod yX11_faultOf), (45, Cond.selects (fR 11) yX11_faultOf yX11_faultOf), (1245, Cond.code yX11_faultOf cX11_faultOf 2 (some .int)), (87, Cond.initialized yX11_faultOf.cls), (1282, Cond.methodLink RX11 208 yX11_hasProduct), (1284, Cond.instanceMethod yX11_hasProduct), (52, Cond.selects (fR 11) yX11_hasProduct yX11_hasProduct), (1285, Cond.code yX11_hasProduct cX11_hasProduct 4 (some .boolean)), (87, Cond.initialized yX11_hasProduct.cls), (1312, Cond.methodLink RX11 217 yX11_place), (1313, Cond.static yX11_place), (1314, Cond.code yX11_place cX11_place 3 (some .int)), (87, Cond.initialized yX11_place.cls), (1319, Cond.methodLink RX11 221 yX11_next), (1321, Cond.instanceMethod yX11_next), (58, Cond.selects (fR 11) yX11_next yX11_next), (1322, Cond.code yX11_next cX11_next 5 (some .int))]
set_option maxRecDepth 100000 in
theorem gT_12 : gL_12.all gOK = true := by decide +kernel
def gL_13 : List (Nat × Cond) := [(87, Cond.initialized yX11_next.cls), (1334, Cond.methodLink RX11 225 yX11_named), (1336, Cond.instanceMethod yX11_named), (61, Cond.selects (fR 11) yX11_named yX11_named), (1337, Cond.code yX11_named cX11_named 8 (some .int)), (87, Cond.initialized yX11_named.cls), (1339, Cond.methodLink RX11 231 yX11_size), (1340, Cond.static yX11_size), (1341, Cond.code yX11_size cX11_size 2 (some .long)), (87, Cond.initialized yX11_size.cls), (1344, Cond.methodLink RX11 238 yX11_downLong), (1345, Cond.static yX11_downLong), (1346, Cond.code yX11_downLong cX11_downLong 4 (some .long)), (87, Cond.initialized yX11_downLong.cls), (1356, Cond.methodLink RX11 244 yX11_namedMarked), (1358, Cond.instanceMethod yX11_namedMarked), (64, Cond.selects (fR 11) yX11_namedMarked yX11_namedMarked), (1359, Cond.code yX11_namedMarked cX11_namedMarked 7 (some .boolean)), (87, Cond.initialized yX11_namedMarked.cls), (1330, Cond.methodLink RX11 248 yX11_made), (1332, Cond.instanceMethod yX11_made), (60, Cond.selects (fR 11) yX11_made yX11_made), (1333, Cond.code yX11_made cX11_made 14 (some .int)), (87, Cond.initialized yX11_made.cls), (1348, Cond.methodLink RX11 251 yX11_slipped), (1350, Cond.instanceMethod yX11_slipped), (62, Cond.selects (fR 11) yX11_slipped yX11_slipped), (1351, Cond.code yX11_slipped cX11_slipped 8 (some .int)), (87, Cond.initialized yX11_slipped.cls), (1352, Cond.methodLink RX11 255 yX11_madeMarked), (1354, Cond.instanceMethod yX11_madeMarked), (63, Cond.selects (fR 11) yX11_madeMarked yX11_madeMarked), (1355, Cond.code yX11_madeMarked cX11_madeMarked 6 (some .boolean)), (87, Cond.initialized yX11_madeMarked.cls), (1323, Cond.methodLink RX11 258 yX11_down), (1324, Cond.static yX11_down), (1325, Cond.code yX11_down cX11_down 4 (some .int)), (87, Cond.initialized yX11_down.cls), (1315, Cond.methodLink RX11 262 yX11_filled), (1317, Cond.instanceMethod yX11_filled), (57, Cond.selects (fR 11) yX11_filled yX11_filled), (1318, Cond.code yX11_filled cX11_filled 10 (some .int)), (87, Cond.initialized yX11_filled.cls), (1326, Cond.methodLink RX11 265 yX11_steps), (1328, Cond.instanceMethod yX11_steps), (59, Cond.selects (fR 11) yX11_steps yX11_steps), (1329, Cond.code yX11_steps cX11_steps 8 none), (87, Cond.initialized yX11_steps.cls), (1290, Cond.methodLink RX11 269 yX11_isCell), (1292, Cond.instanceMethod yX11_isCell)]
set_option maxRecDepth 100000 in
theorem gT_13 : gL_13.all gOK = true := by decide +kernel
def gL_14 : List (Nat × Cond) := [(53, Cond.selects (fR 11) yX11_isCell yX11_isCell), (1293, Cond.code yX11_isCell cX11_isCell 2 (some .boolean)), (87, Cond.initialized yX11_isCell.cls), (1298, Cond.methodLink RX11 274 yX11_isPlace), (1300, Cond.instanceMethod yX11_isPlace), (54, Cond.selects (fR 11) yX11_isPlace yX11_isPlace), (1301, Cond.code yX11_isPlace cX11_isPlace 4 (some .boolean)), (87, Cond.initialized yX11_isPlace.cls), (1304, Cond.methodLink RX11 278 yX11_all), (1306, Cond.instanceMethod yX11_all), (55, Cond.selects (fR 11) yX11_all yX11_all), (1307, Cond.code yX11_all cX11_all 1 (some .int)), (87, Cond.initialized yX11_all.cls), (1308, Cond.methodLink RX11 281 yX11_hall), (1310, Cond.instanceMethod yX11_hall), (56, Cond.selects (fR 11) yX11_hall yX11_hall), (1311, Cond.code yX11_hall cX11_hall 5 none), (87, Cond.initialized yX11_hall.cls), (1399, Cond.methodLink RX11 296 yX11_tells), (1401, Cond.instanceMethod yX11_tells), (65, Cond.selects (fR 11) yX11_tells yX11_tells), (1402, Cond.code yX11_tells cX11_tells 4 (some .int)), (87, Cond.initialized yX11_tells.cls), (1407, Cond.methodLink RX11 299 yX11_isEven), (1409, Cond.instanceMethod yX11_isEven), (66, Cond.selects (fR 11) yX11_isEven yX11_isEven), (1410, Cond.code yX11_isEven cX11_isEven 7 (some .boolean)), (87, Cond.initialized yX11_isEven.cls), (1443, Cond.methodLink RX11 309 yX11_ends), (1445, Cond.instanceMethod yX11_ends), (68, Cond.selects (fR 11) yX11_ends yX11_ends), (1446, Cond.code yX11_ends cX11_ends 9 none), (87, Cond.initialized yX11_ends.cls), (1439, Cond.methodLink RX11 314 yX11_ownEnds), (1441, Cond.instanceMethod yX11_ownEnds), (67, Cond.selects (fR 11) yX11_ownEnds yX11_ownEnds), (1442, Cond.code yX11_ownEnds cX11_ownEnds 2 none), (87, Cond.initialized yX11_ownEnds.cls), (1447, Cond.methodLink RX11 317 yX11_lastOf), (1449, Cond.instanceMethod yX11_lastOf), (69, Cond.selects (fR 11) yX11_lastOf yX11_lastOf), (1450, Cond.code yX11_lastOf cX11_lastOf 4 (some .int)), (87, Cond.initialized yX11_lastOf.cls), (1459, Cond.methodLink RX11 320 yX11_gives), (1461, Cond.instanceMethod yX11_gives), (70, Cond.selects (fR 11) yX11_gives yX11_gives), (1462, Cond.code yX11_gives cX11_gives 5 none), (87, Cond.initialized yX11_gives.cls), (1484, Cond.methodLink RX11 326 yX11_slot), (1486, Cond.instanceMethod yX11_slot)]
set_option maxRecDepth 100000 in
theorem gT_14 : gL_14.all gOK = true := by decide +kernel
def gL_15 : List (Nat × Cond) := [(73, Cond.selects (fR 11) yX11_slot yX11_slot), (1487, Cond.code yX11_slot cX11_slot 8 (some .int)), (87, Cond.initialized yX11_slot.cls), (1480, Cond.methodLink RX11 330 yX11_moves), (1482, Cond.instanceMethod yX11_moves), (72, Cond.selects (fR 11) yX11_moves yX11_moves), (1483, Cond.code yX11_moves cX11_moves 6 (some .int)), (87, Cond.initialized yX11_moves.cls), (1476, Cond.methodLink RX11 334 yX11_moveAll), (1478, Cond.instanceMethod yX11_moveAll), (71, Cond.selects (fR 11) yX11_moveAll yX11_moveAll), (1479, Cond.code yX11_moveAll cX11_moveAll 4 none), (87, Cond.initialized yX11_moveAll.cls)]
set_option maxRecDepth 100000 in
theorem gT_15 : gL_15.all gOK = true := by decide +kernel
set_option maxRecDepth 100000 in
theorem gl_RX0_18 : Cond.methodLink RX0 18 yJ9_min_7cf53 ∈ gtbl := g_ix gT_0 0 rfl
set_option maxRecDepth 100000 in
theorem gt_J9_min_7cf53 : Cond.static yJ9_min_7cf53 ∈ gtbl := g_ix gT_0 1 rfl
set_option maxRecDepth 100000 in
theorem gp0_J9_min_7cf53 : (parseMethodDescriptor yJ9_min_7cf53.desc).map (fun d => d.parameters.length) = some 2 := by decide +kernel
set_option maxRecDepth 100000 in
theorem gc_J9_min_7cf53 : Cond.code yJ9_min_7cf53 prog_15_method_69_code 2 (some .int) ∈ gtbl := g_ix gT_0 2 rfl
set_option maxRecDepth 100000 in
theorem gi_J9_min_7cf53 : Cond.initialized yJ9_min_7cf53.cls ∈ gtbl := g_ix gT_0 3 rfl
set_option maxRecDepth 100000 in
theorem gh_J9_min_7cf53 : yJ9_min_7cf53.cls ≠ "java/lang/invoke/MethodHandle" ∧ yJ9_min_7cf53.cls ≠ "java/lang/invoke/VarHandle" := ⟨by decide +kernel, by decide +kernel⟩
set_option maxRecDepth 100000 in
theorem gl_RX0_24 : Cond.methodLink RX0 24 yJ9_max_7cf53 ∈ gtbl := g_ix gT_0 4 rfl
set_option maxRecDepth 100000 in
theorem gt_J9_max_7cf53 : Cond.static yJ9_max_7cf53 ∈ gtbl := g_ix gT_0 5 rfl
set_option maxRecDepth 100000 in
theorem gp0_J9_max_7cf53 : (parseMethodDescriptor yJ9_max_7cf53.desc).map (fun d => d.parameters.length) = some 2 := by decide +kernel
set_option maxRecDepth 100000 in
theorem gc_J9_max_7cf53 : Cond.code yJ9_max_7cf53 prog_15_method_65_code 2 (some .int) ∈ gtbl := g_ix gT_0 6 rfl
set_option maxRecDepth 100000 in
theorem gi_J9_max_7cf53 : Cond.initialized yJ9_max_7cf53.cls ∈ gtbl := g_ix gT_0 7 rfl
set_option maxRecDepth 100000 in
theorem gh_J9_max_7cf53 : yJ9_max_7cf53.cls ≠ "java/lang/invoke/MethodHandle" ∧ yJ9_max_7cf53.cls ≠ "java/lang/invoke/VarHandle" := ⟨by decide +kernel, by decide +kernel⟩
set_option maxRecDepth 100000 in
theorem gl_RX0_39 : Cond.methodLink RX0 39 yX0_takeFirsts ∈ gtbl := g_ix gT_0 8 rfl
set_option maxRecDepth 100000 in
theorem gn_X0_takeFirsts : Cond.instanceMethod yX0_takeFirsts ∈ gtbl := g_ix gT_0 9 rfl
set_option maxRecDepth 100000 in
theorem gs_X0_takeFirsts : Cond.selects (fR 0) yX0_takeFirsts yX0_takeFirsts ∈ gtbl := g_ix gT_0 10 rfl
set_option maxRecDepth 100000 in
theorem gp1_X0_takeFirsts : (parseMethodDescriptor yX0_takeFirsts.desc).map (fun d => d.parameters.length + 1) = some 3 := by decide +kernel
set_option maxRecDepth 100000 in
theorem gc_X0_takeFirsts : Cond.code yX0_takeFirsts cX0_takeFirsts 6 none ∈ gtbl := g_ix gT_0 11 rfl
set_option maxRecDepth 100000 in
theorem gi_X0_takeFirsts : Cond.initialized yX0_takeFirsts.cls ∈ gtbl := g_ix gT_0 12 rfl
set_option maxRecDepth 100000 in
theorem gh_X0_takeFirsts : yX0_takeFirsts.cls ≠ "java/lang/invoke/MethodHandle" ∧ yX0_takeFirsts.cls ≠ "java/lang/invoke/VarHandle" := ⟨by decide +kernel, by decide +kernel⟩
set_option maxRecDepth 100000 in
theorem gl_RX0_59 : Cond.methodLink RX0 59 yX0_made ∈ gtbl := g_ix gT_0 13 rfl
set_option maxRecDepth 100000 in
theorem gn_X0_made : Cond.instanceMethod yX0_made ∈ gtbl := g_ix gT_0 14 rfl
set_option maxRecDepth 100000 in
theorem gs_X0_made : Cond.selects (fR 0) yX0_made yX0_made ∈ gtbl := g_ix gT_0 15 rfl
set_option maxRecDepth 100000 in
theorem gp1_X0_made : (parseMethodDescriptor yX0_made.desc).map (fun d => d.parameters.length + 1) = some 6 := by decide +kernel
set_option maxRecDepth 100000 in
theorem gc_X0_made : Cond.code yX0_made cX0_made 13 (some .int) ∈ gtbl := g_ix gT_0 16 rfl
set_option maxRecDepth 100000 in
theorem gi_X0_made : Cond.initialized yX0_made.cls ∈ gtbl := g_ix gT_0 17 rfl
set_option maxRecDepth 100000 in
theorem gh_X0_made : yX0_made.cls ≠ "java/lang/invoke/MethodHandle" ∧ yX0_made.cls ≠ "java/lang/invoke/VarHandle" := ⟨by decide +kernel, by decide +kernel⟩
set_option maxRecDepth 100000 in
theorem gl_RX0_63 : Cond.methodLink RX0 63 yX7_slipped ∈ gtbl := g_ix gT_0 18 rfl
set_option maxRecDepth 100000 in
theorem gn_X7_slipped : Cond.instanceMethod yX7_slipped ∈ gtbl := g_ix gT_0 19 rfl
set_option maxRecDepth 100000 in
theorem gs_X7_slipped : Cond.selects (fR 7) yX7_slipped yX7_slipped ∈ gtbl := g_ix gT_0 20 rfl
set_option maxRecDepth 100000 in
theorem gp1_X7_slipped : (parseMethodDescriptor yX7_slipped.desc).map (fun d => d.parameters.length + 1) = some 6 := by decide +kernel
set_option maxRecDepth 100000 in
theorem gc_X7_slipped : Cond.code yX7_slipped cX7_slipped 8 (some .int) ∈ gtbl := g_ix gT_0 21 rfl
set_option maxRecDepth 100000 in
theorem gi_X7_slipped : Cond.initialized yX7_slipped.cls ∈ gtbl := g_ix gT_0 22 rfl
set_option maxRecDepth 100000 in
theorem gh_X7_slipped : yX7_slipped.cls ≠ "java/lang/invoke/MethodHandle" ∧ yX7_slipped.cls ≠ "java/lang/invoke/VarHandle" := ⟨by decide +kernel, by decide +kernel⟩
set_option maxRecDepth 100000 in
theorem gl_RX0_67 : Cond.methodLink RX0 67 yX0_set ∈ gtbl := g_ix gT_0 23 rfl
set_option maxRecDepth 100000 in
theorem gn_X0_set : Cond.instanceMethod yX0_set ∈ gtbl := g_ix gT_0 24 rfl
set_option maxRecDepth 100000 in
theorem gs_X0_set : Cond.selects (fR 0) yX0_set yX0_set ∈ gtbl := g_ix gT_0 25 rfl
set_option maxRecDepth 100000 in
theorem gp1_X0_set : (parseMethodDescriptor yX0_set.desc).map (fun d => d.parameters.length + 1) = some 5 := by decide +kernel
set_option maxRecDepth 100000 in
theorem gc_X0_set : Cond.code yX0_set cX0_set 6 none ∈ gtbl := g_ix gT_0 26 rfl
set_option maxRecDepth 100000 in
theorem gi_X0_set : Cond.initialized yX0_set.cls ∈ gtbl := g_ix gT_0 27 rfl
set_option maxRecDepth 100000 in
theorem gh_X0_set : yX0_set.cls ≠ "java/lang/invoke/MethodHandle" ∧ yX0_set.cls ≠ "java/lang/invoke/VarHandle" := ⟨by decide +kernel, by decide +kernel⟩
set_option maxRecDepth 100000 in
theorem gl_RX0_71 : Cond.methodLink RX0 71 yX7_isGap ∈ gtbl := g_ix gT_0 28 rfl
set_option maxRecDepth 100000 in
theorem gn_X7_isGap : Cond.instanceMethod yX7_isGap ∈ gtbl := g_ix gT_0 29 rfl
set_option maxRecDepth 100000 in
theorem gs_X7_isGap : Cond.selects (fR 7) yX7_isGap yX7_isGap ∈ gtbl := g_ix gT_0 30 rfl
set_option maxRecDepth 100000 in
theorem gp1_X7_isGap : (parseMethodDescriptor yX7_isGap.desc).map (fun d => d.parameters.length + 1) = some 3 := by decide +kernel
set_option maxRecDepth 100000 in
theorem gc_X7_isGap : Cond.code yX7_isGap cX7_isGap 3 (some .boolean) ∈ gtbl := g_ix gT_0 31 rfl
set_option maxRecDepth 100000 in
theorem gi_X7_isGap : Cond.initialized yX7_isGap.cls ∈ gtbl := g_ix gT_0 32 rfl
set_option maxRecDepth 100000 in
theorem gh_X7_isGap : yX7_isGap.cls ≠ "java/lang/invoke/MethodHandle" ∧ yX7_isGap.cls ≠ "java/lang/invoke/VarHandle" := ⟨by decide +kernel, by decide +kernel⟩
set_option maxRecDepth 100000 in
theorem gl_RX0_75 : Cond.methodLink RX0 75 yX7_filled ∈ gtbl := g_ix gT_0 33 rfl
set_option maxRecDepth 100000 in
theorem gn_X7_filled : Cond.instanceMethod yX7_filled ∈ gtbl := g_ix gT_0 34 rfl
set_option maxRecDepth 100000 in
theorem gs_X7_filled : Cond.selects (fR 7) yX7_filled yX7_filled ∈ gtbl := g_ix gT_0 35 rfl
set_option maxRecDepth 100000 in
theorem gp1_X7_filled : (parseMethodDescriptor yX7_filled.desc).map (fun d => d.parameters.length + 1) = some 4 := by decide +kernel
set_option maxRecDepth 100000 in
theorem gc_X7_filled : Cond.code yX7_filled cX7_filled 9 (some .int) ∈ gtbl := g_ix gT_0 36 rfl
set_option maxRecDepth 100000 in
theorem gi_X7_filled : Cond.initialized yX7_filled.cls ∈ gtbl := g_ix gT_0 37 rfl
set_option maxRecDepth 100000 in
theorem gh_X7_filled : yX7_filled.cls ≠ "java/lang/invoke/MethodHandle" ∧ yX7_filled.cls ≠ "java/lang/invoke/VarHandle" := ⟨by decide +kernel, by decide +kernel⟩
set_option maxRecDepth 100000 in
theorem gl_RX0_79 : Cond.methodLink RX0 79 yX7_firstAt ∈ gtbl := g_ix gT_0 38 rfl
set_option maxRecDepth 100000 in
theorem gn_X7_firstAt : Cond.instanceMethod yX7_firstAt ∈ gtbl := g_ix gT_0 39 rfl
set_option maxRecDepth 100000 in
theorem gs_X7_firstAt : Cond.selects (fR 7) yX7_firstAt yX7_firstAt ∈ gtbl := g_ix gT_0 40 rfl
set_option maxRecDepth 100000 in
theorem gp1_X7_firstAt : (parseMethodDescriptor yX7_firstAt.desc).map (fun d => d.parameters.length + 1) = some 3 := by decide +kernel
set_option maxRecDepth 100000 in
theorem gc_X7_firstAt : Cond.code yX7_firstAt cX7_firstAt 4 (some .int) ∈ gtbl := g_ix gT_0 41 rfl
set_option maxRecDepth 100000 in
theorem gi_X7_firstAt : Cond.initialized yX7_firstAt.cls ∈ gtbl := g_ix gT_0 42 rfl
set_option maxRecDepth 100000 in
theorem gh_X7_firstAt : yX7_firstAt.cls ≠ "java/lang/invoke/MethodHandle" ∧ yX7_firstAt.cls ≠ "java/lang/invoke/VarHandle" := ⟨by decide +kernel, by decide +kernel⟩
set_option maxRecDepth 100000 in
theorem gl_RX0_85 : Cond.methodLink RX0 85 yX0_number ∈ gtbl := g_ix gT_0 43 rfl
set_option maxRecDepth 100000 in
theorem gn_X0_number : Cond.instanceMethod yX0_number ∈ gtbl := g_ix gT_0 44 rfl
set_option maxRecDepth 100000 in
theorem gs_X0_number : Cond.selects (fR 0) yX0_number yX0_number ∈ gtbl := g_ix gT_0 45 rfl
set_option maxRecDepth 100000 in
theorem gp1_X0_number : (parseMethodDescriptor yX0_number.desc).map (fun d => d.parameters.length + 1) = some 4 := by decide +kernel
set_option maxRecDepth 100000 in
theorem gc_X0_number : Cond.code yX0_number cX0_number 5 (some .int) ∈ gtbl := g_ix gT_0 46 rfl
set_option maxRecDepth 100000 in
theorem gi_X0_number : Cond.initialized yX0_number.cls ∈ gtbl := g_ix gT_0 47 rfl
set_option maxRecDepth 100000 in
theorem gh_X0_number : yX0_number.cls ≠ "java/lang/invoke/MethodHandle" ∧ yX0_number.cls ≠ "java/lang/invoke/VarHandle" := ⟨by decide +kernel, by decide +kernel⟩
set_option maxRecDepth 100000 in
theorem gl_RX0_89 : Cond.methodLink RX0 89 yX5_end ∈ gtbl := g_ix gT_0 48 rfl
set_option maxRecDepth 100000 in
theorem gn_X5_end : Cond.instanceMethod yX5_end ∈ gtbl := g_ix gT_0 49 rfl
set_option maxRecDepth 100000 in
theorem gs_X5_end : Cond.selects (fR 5) yX5_end yX5_end ∈ gtbl := g_ix gT_1 0 rfl
set_option maxRecDepth 100000 in
theorem gp1_X5_end : (parseMethodDescriptor yX5_end.desc).map (fun d => d.parameters.length + 1) = some 2 := by decide +kernel
set_option maxRecDepth 100000 in
theorem gc_X5_end : Cond.code yX5_end cX5_end 2 (some .int) ∈ gtbl := g_ix gT_1 1 rfl
set_option maxRecDepth 100000 in
theorem gi_X5_end : Cond.initialized yX5_end.cls ∈ gtbl := g_ix gT_1 2 rfl
set_option maxRecDepth 100000 in
theorem gh_X5_end : yX5_end.cls ≠ "java/lang/invoke/MethodHandle" ∧ yX5_end.cls ≠ "java/lang/invoke/VarHandle" := ⟨by decide +kernel, by decide +kernel⟩
set_option maxRecDepth 100000 in
theorem gl_RX0_96 : Cond.methodLink RX0 96 yX0_termMade ∈ gtbl := g_ix gT_1 3 rfl
set_option maxRecDepth 100000 in
theorem gn_X0_termMade : Cond.instanceMethod yX0_termMade ∈ gtbl := g_ix gT_1 4 rfl
set_option maxRecDepth 100000 in
theorem gs_X0_termMade : Cond.selects (fR 0) yX0_termMade yX0_termMade ∈ gtbl := g_ix gT_1 5 rfl
set_option maxRecDepth 100000 in
theorem gp1_X0_termMade : (parseMethodDescriptor yX0_termMade.desc).map (fun d => d.parameters.length + 1) = some 6 := by decide +kernel
set_option maxRecDepth 100000 in
theorem gc_X0_termMade : Cond.code yX0_termMade cX0_termMade 11 (some .long) ∈ gtbl := g_ix gT_1 6 rfl
set_option maxRecDepth 100000 in
theorem gi_X0_termMade : Cond.initialized yX0_termMade.cls ∈ gtbl := g_ix gT_1 7 rfl
set_option maxRecDepth 100000 in
theorem gh_X0_termMade : yX0_termMade.cls ≠ "java/lang/invoke/MethodHandle" ∧ yX0_termMade.cls ≠ "java/lang/invoke/VarHandle" := ⟨by decide +kernel, by decide +kernel⟩
set_option maxRecDepth 100000 in
theorem gl_RX0_102 : Cond.methodLink RX0 102 yX5_divided ∈ gtbl := g_ix gT_1 8 rfl
set_option maxRecDepth 100000 in
theorem gn_X5_divided : Cond.instanceMethod yX5_divided ∈ gtbl := g_ix gT_1 9 rfl
set_option maxRecDepth 100000 in
theorem gs_X5_divided : Cond.selects (fR 5) yX5_divided yX5_divided ∈ gtbl := g_ix gT_1 10 rfl
set_option maxRecDepth 100000 in
theorem gp1_X5_divided : (parseMethodDescriptor yX5_divided.desc).map (fun d => d.parameters.length + 1) = some 3 := by decide +kernel
set_option maxRecDepth 100000 in
theorem gc_X5_divided : Cond.code yX5_divided cX5_divided 8 (some .int) ∈ gtbl := g_ix gT_1 11 rfl
set_option maxRecDepth 100000 in
theorem gi_X5_divided : Cond.initialized yX5_divided.cls ∈ gtbl := g_ix gT_1 12 rfl
set_option maxRecDepth 100000 in
theorem gh_X5_divided : yX5_divided.cls ≠ "java/lang/invoke/MethodHandle" ∧ yX5_divided.cls ≠ "java/lang/invoke/VarHandle" := ⟨by decide +kernel, by decide +kernel⟩
set_option maxRecDepth 100000 in
theorem gl_RX0_109 : Cond.methodLink RX0 109 yX0_named ∈ gtbl := g_ix gT_1 13 rfl
set_option maxRecDepth 100000 in
theorem gn_X0_named : Cond.instanceMethod yX0_named ∈ gtbl := g_ix gT_1 14 rfl
set_option maxRecDepth 100000 in
theorem gs_X0_named : Cond.selects (fR 0) yX0_named yX0_named ∈ gtbl := g_ix gT_1 15 rfl
set_option maxRecDepth 100000 in
theorem gp1_X0_named : (parseMethodDescriptor yX0_named.desc).map (fun d => d.parameters.length + 1) = some 6 := by decide +kernel
set_option maxRecDepth 100000 in
theorem gc_X0_named : Cond.code yX0_named cX0_named 8 (some .int) ∈ gtbl := g_ix gT_1 16 rfl
set_option maxRecDepth 100000 in
theorem gi_X0_named : Cond.initialized yX0_named.cls ∈ gtbl := g_ix gT_1 17 rfl
set_option maxRecDepth 100000 in
theorem gh_X0_named : yX0_named.cls ≠ "java/lang/invoke/MethodHandle" ∧ yX0_named.cls ≠ "java/lang/invoke/VarHandle" := ⟨by decide +kernel, by decide +kernel⟩
set_option maxRecDepth 100000 in
theorem gl_RX0_117 : Cond.methodLink RX0 117 yJ9_abs_067f4 ∈ gtbl := g_ix gT_1 18 rfl
set_option maxRecDepth 100000 in
theorem gt_J9_abs_067f4 : Cond.static yJ9_abs_067f4 ∈ gtbl := g_ix gT_1 19 rfl
set_option maxRecDepth 100000 in
theorem gp0_J9_abs_067f4 : (parseMethodDescriptor yJ9_abs_067f4.desc).map (fun d => d.parameters.length) = some 1 := by decide +kernel
set_option maxRecDepth 100000 in
theorem gc_J9_abs_067f4 : Cond.code yJ9_abs_067f4 prog_15_method_61_code 2 (some .long) ∈ gtbl := g_ix gT_1 20 rfl
set_option maxRecDepth 100000 in
theorem gi_J9_abs_067f4 : Cond.initialized yJ9_abs_067f4.cls ∈ gtbl := g_ix gT_1 21 rfl
set_option maxRecDepth 100000 in
theorem gh_J9_abs_067f4 : yJ9_abs_067f4.cls ≠ "java/lang/invoke/MethodHandle" ∧ yJ9_abs_067f4.cls ≠ "java/lang/invoke/VarHandle" := ⟨by decide +kernel, by decide +kernel⟩
set_option maxRecDepth 100000 in
theorem gl_RX0_126 : Cond.methodLink RX0 126 yX5_letterOf ∈ gtbl := g_ix gT_1 22 rfl
set_option maxRecDepth 100000 in
theorem gt_X5_letterOf : Cond.static yX5_letterOf ∈ gtbl := g_ix gT_1 23 rfl
set_option maxRecDepth 100000 in
theorem gp0_X5_letterOf : (parseMethodDescriptor yX5_letterOf.desc).map (fun d => d.parameters.length) = some 1 := by decide +kernel
set_option maxRecDepth 100000 in
theorem gc_X5_letterOf : Cond.code yX5_letterOf cX5_letterOf 1 (some .int) ∈ gtbl := g_ix gT_1 24 rfl
set_option maxRecDepth 100000 in
theorem gi_X5_letterOf : Cond.initialized yX5_letterOf.cls ∈ gtbl := g_ix gT_1 25 rfl
set_option maxRecDepth 100000 in
theorem gh_X5_letterOf : yX5_letterOf.cls ≠ "java/lang/invoke/MethodHandle" ∧ yX5_letterOf.cls ≠ "java/lang/invoke/VarHandle" := ⟨by decide +kernel, by decide +kernel⟩
set_option maxRecDepth 100000 in
theorem gl_RX0_129 : Cond.methodLink RX0 129 yX5_sideOf ∈ gtbl := g_ix gT_1 26 rfl
set_option maxRecDepth 100000 in
theorem gt_X5_sideOf : Cond.static yX5_sideOf ∈ gtbl := g_ix gT_1 27 rfl
set_option maxRecDepth 100000 in
theorem gp0_X5_sideOf : (parseMethodDescriptor yX5_sideOf.desc).map (fun d => d.parameters.length) = some 1 := by decide +kernel
set_option maxRecDepth 100000 in
theorem gc_X5_sideOf : Cond.code yX5_sideOf cX5_sideOf 1 (some .int) ∈ gtbl := g_ix gT_1 28 rfl
set_option maxRecDepth 100000 in
theorem gi_X5_sideOf : Cond.initialized yX5_sideOf.cls ∈ gtbl := g_ix gT_1 29 rfl
set_option maxRecDepth 100000 in
theorem gh_X5_sideOf : yX5_sideOf.cls ≠ "java/lang/invoke/MethodHandle" ∧ yX5_sideOf.cls ≠ "java/lang/invoke/VarHandle" := ⟨by decide +kernel, by decide +kernel⟩
set_option maxRecDepth 100000 in
theorem gl_RX0_132 : Cond.methodLink RX0 132 yX3_beside ∈ gtbl := g_ix gT_1 30 rfl
set_option maxRecDepth 100000 in
theorem gn_X3_beside : Cond.instanceMethod yX3_beside ∈ gtbl := g_ix gT_1 31 rfl
set_option maxRecDepth 100000 in
theorem gs_X3_beside : Cond.selects (fR 3) yX3_beside yX3_beside ∈ gtbl := g_ix gT_1 32 rfl
set_option maxRecDepth 100000 in
theorem gp1_X3_beside : (parseMethodDescriptor yX3_beside.desc).map (fun d => d.parameters.length + 1) = some 3 := by decide +kernel
set_option maxRecDepth 100000 in
theorem gc_X3_beside : Cond.code yX3_beside cX3_beside 4 (some .int) ∈ gtbl := g_ix gT_1 33 rfl
set_option maxRecDepth 100000 in
theorem gi_X3_beside : Cond.initialized yX3_beside.cls ∈ gtbl := g_ix gT_1 34 rfl
set_option maxRecDepth 100000 in
theorem gh_X3_beside : yX3_beside.cls ≠ "java/lang/invoke/MethodHandle" ∧ yX3_beside.cls ≠ "java/lang/invoke/VarHandle" := ⟨by decide +kernel, by decide +kernel⟩
set_option maxRecDepth 100000 in
theorem gl_RX0_138 : Cond.methodLink RX0 138 yX5_isNow ∈ gtbl := g_ix gT_1 35 rfl
set_option maxRecDepth 100000 in
theorem gt_X5_isNow : Cond.static yX5_isNow ∈ gtbl := g_ix gT_1 36 rfl
set_option maxRecDepth 100000 in
theorem gp0_X5_isNow : (parseMethodDescriptor yX5_isNow.desc).map (fun d => d.parameters.length) = some 1 := by decide +kernel
set_option maxRecDepth 100000 in
theorem gc_X5_isNow : Cond.code yX5_isNow cX5_isNow 1 (some .boolean) ∈ gtbl := g_ix gT_1 37 rfl
set_option maxRecDepth 100000 in
theorem gi_X5_isNow : Cond.initialized yX5_isNow.cls ∈ gtbl := g_ix gT_1 38 rfl
set_option maxRecDepth 100000 in
theorem gh_X5_isNow : yX5_isNow.cls ≠ "java/lang/invoke/MethodHandle" ∧ yX5_isNow.cls ≠ "java/lang/invoke/VarHandle" := ⟨by decide +kernel, by decide +kernel⟩
set_option maxRecDepth 100000 in
theorem gl_RX0_145 : Cond.methodLink RX0 145 yX0_counted ∈ gtbl := g_ix gT_1 39 rfl
set_option maxRecDepth 100000 in
theorem gn_X0_counted : Cond.instanceMethod yX0_counted ∈ gtbl := g_ix gT_1 40 rfl
set_option maxRecDepth 100000 in
theorem gs_X0_counted : Cond.selects (fR 0) yX0_counted yX0_counted ∈ gtbl := g_ix gT_1 41 rfl
set_option maxRecDepth 100000 in
theorem gp1_X0_counted : (parseMethodDescriptor yX0_counted.desc).map (fun d => d.parameters.length + 1) = some 4 := by decide +kernel
set_option maxRecDepth 100000 in
theorem gc_X0_counted : Cond.code yX0_counted cX0_counted 5 (some .int) ∈ gtbl := g_ix gT_1 42 rfl
set_option maxRecDepth 100000 in
theorem gi_X0_counted : Cond.initialized yX0_counted.cls ∈ gtbl := g_ix gT_1 43 rfl
set_option maxRecDepth 100000 in
theorem gh_X0_counted : yX0_counted.cls ≠ "java/lang/invoke/MethodHandle" ∧ yX0_counted.cls ≠ "java/lang/invoke/VarHandle" := ⟨by decide +kernel, by decide +kernel⟩
set_option maxRecDepth 100000 in
theorem gl_RX1_28 : Cond.methodLink RX1 28 yX1_clearTold ∈ gtbl := g_ix gT_1 44 rfl
set_option maxRecDepth 100000 in
theorem gn_X1_clearTold : Cond.instanceMethod yX1_clearTold ∈ gtbl := g_ix gT_1 45 rfl
set_option maxRecDepth 100000 in
theorem gs_X1_clearTold : Cond.selects (fR 1) yX1_clearTold yX1_clearTold ∈ gtbl := g_ix gT_1 46 rfl
set_option maxRecDepth 100000 in
theorem gp1_X1_clearTold : (parseMethodDescriptor yX1_clearTold.desc).map (fun d => d.parameters.length + 1) = some 1 := by decide +kernel
set_option maxRecDepth 100000 in
theorem gc_X1_clearTold : Cond.code yX1_clearTold cX1_clearTold 2 none ∈ gtbl := g_ix gT_1 47 rfl
set_option maxRecDepth 100000 in
theorem gi_X1_clearTold : Cond.initialized yX1_clearTold.cls ∈ gtbl := g_ix gT_1 48 rfl
set_option maxRecDepth 100000 in
theorem gh_X1_clearTold : yX1_clearTold.cls ≠ "java/lang/invoke/MethodHandle" ∧ yX1_clearTold.cls ≠ "java/lang/invoke/VarHandle" := ⟨by decide +kernel, by decide +kernel⟩
set_option maxRecDepth 100000 in
theorem gl_RX1_45 : Cond.methodLink RX1 45 yX0_rowSum ∈ gtbl := g_ix gT_1 49 rfl
set_option maxRecDepth 100000 in
theorem gn_X0_rowSum : Cond.instanceMethod yX0_rowSum ∈ gtbl := g_ix gT_2 0 rfl
set_option maxRecDepth 100000 in
theorem gs_X0_rowSum : Cond.selects (fR 0) yX0_rowSum yX0_rowSum ∈ gtbl := g_ix gT_2 1 rfl
set_option maxRecDepth 100000 in
theorem gp1_X0_rowSum : (parseMethodDescriptor yX0_rowSum.desc).map (fun d => d.parameters.length + 1) = some 5 := by decide +kernel
set_option maxRecDepth 100000 in
theorem gc_X0_rowSum : Cond.code yX0_rowSum cX0_rowSum 8 (some .long) ∈ gtbl := g_ix gT_2 2 rfl
set_option maxRecDepth 100000 in
theorem gi_X0_rowSum : Cond.initialized yX0_rowSum.cls ∈ gtbl := g_ix gT_2 3 rfl
set_option maxRecDepth 100000 in
theorem gh_X0_rowSum : yX0_rowSum.cls ≠ "java/lang/invoke/MethodHandle" ∧ yX0_rowSum.cls ≠ "java/lang/invoke/VarHandle" := ⟨by decide +kernel, by decide +kernel⟩
set_option maxRecDepth 100000 in
theorem gl_RX1_54 : Cond.methodLink RX1 54 yX0_columnSum ∈ gtbl := g_ix gT_2 4 rfl
set_option maxRecDepth 100000 in
theorem gn_X0_columnSum : Cond.instanceMethod yX0_columnSum ∈ gtbl := g_ix gT_2 5 rfl
set_option maxRecDepth 100000 in
theorem gs_X0_columnSum : Cond.selects (fR 0) yX0_columnSum yX0_columnSum ∈ gtbl := g_ix gT_2 6 rfl
set_option maxRecDepth 100000 in
theorem gp1_X0_columnSum : (parseMethodDescriptor yX0_columnSum.desc).map (fun d => d.parameters.length + 1) = some 5 := by decide +kernel
set_option maxRecDepth 100000 in
theorem gc_X0_columnSum : Cond.code yX0_columnSum cX0_columnSum 8 (some .long) ∈ gtbl := g_ix gT_2 7 rfl
set_option maxRecDepth 100000 in
theorem gi_X0_columnSum : Cond.initialized yX0_columnSum.cls ∈ gtbl := g_ix gT_2 8 rfl
set_option maxRecDepth 100000 in
theorem gh_X0_columnSum : yX0_columnSum.cls ≠ "java/lang/invoke/MethodHandle" ∧ yX0_columnSum.cls ≠ "java/lang/invoke/VarHandle" := ⟨by decide +kernel, by decide +kernel⟩
set_option maxRecDepth 100000 in
theorem gl_RX1_57 : Cond.methodLink RX1 57 yX1_addLack ∈ gtbl := g_ix gT_2 9 rfl
set_option maxRecDepth 100000 in
theorem gn_X1_addLack : Cond.instanceMethod yX1_addLack ∈ gtbl := g_ix gT_2 10 rfl
set_option maxRecDepth 100000 in
theorem gs_X1_addLack : Cond.selects (fR 1) yX1_addLack yX1_addLack ∈ gtbl := g_ix gT_2 11 rfl
set_option maxRecDepth 100000 in
theorem gp1_X1_addLack : (parseMethodDescriptor yX1_addLack.desc).map (fun d => d.parameters.length + 1) = some 3 := by decide +kernel
set_option maxRecDepth 100000 in
theorem gc_X1_addLack : Cond.code yX1_addLack cX1_addLack 4 (some .int) ∈ gtbl := g_ix gT_2 12 rfl
set_option maxRecDepth 100000 in
theorem gi_X1_addLack : Cond.initialized yX1_addLack.cls ∈ gtbl := g_ix gT_2 13 rfl
set_option maxRecDepth 100000 in
theorem gh_X1_addLack : yX1_addLack.cls ≠ "java/lang/invoke/MethodHandle" ∧ yX1_addLack.cls ≠ "java/lang/invoke/VarHandle" := ⟨by decide +kernel, by decide +kernel⟩
set_option maxRecDepth 100000 in
theorem gl_RX1_61 : Cond.methodLink RX1 61 yX1_mostParts ∈ gtbl := g_ix gT_2 14 rfl
set_option maxRecDepth 100000 in
theorem gn_X1_mostParts : Cond.instanceMethod yX1_mostParts ∈ gtbl := g_ix gT_2 15 rfl
set_option maxRecDepth 100000 in
theorem gs_X1_mostParts : Cond.selects (fR 1) yX1_mostParts yX1_mostParts ∈ gtbl := g_ix gT_2 16 rfl
set_option maxRecDepth 100000 in
theorem gp1_X1_mostParts : (parseMethodDescriptor yX1_mostParts.desc).map (fun d => d.parameters.length + 1) = some 3 := by decide +kernel
set_option maxRecDepth 100000 in
theorem gc_X1_mostParts : Cond.code yX1_mostParts cX1_mostParts 5 (some .int) ∈ gtbl := g_ix gT_2 17 rfl
set_option maxRecDepth 100000 in
theorem gi_X1_mostParts : Cond.initialized yX1_mostParts.cls ∈ gtbl := g_ix gT_2 18 rfl
set_option maxRecDepth 100000 in
theorem gh_X1_mostParts : yX1_mostParts.cls ≠ "java/lang/invoke/MethodHandle" ∧ yX1_mostParts.cls ≠ "java/lang/invoke/VarHandle" := ⟨by decide +kernel, by decide +kernel⟩
set_option maxRecDepth 100000 in
theorem gl_RX1_65 : Cond.methodLink RX1 65 yX1_findEvenSets ∈ gtbl := g_ix gT_2 19 rfl
set_option maxRecDepth 100000 in
theorem gn_X1_findEvenSets : Cond.instanceMethod yX1_findEvenSets ∈ gtbl := g_ix gT_2 20 rfl
set_option maxRecDepth 100000 in
theorem gs_X1_findEvenSets : Cond.selects (fR 1) yX1_findEvenSets yX1_findEvenSets ∈ gtbl := g_ix gT_2 21 rfl
set_option maxRecDepth 100000 in
theorem gp1_X1_findEvenSets : (parseMethodDescriptor yX1_findEvenSets.desc).map (fun d => d.parameters.length + 1) = some 2 := by decide +kernel
set_option maxRecDepth 100000 in
theorem gc_X1_findEvenSets : Cond.code yX1_findEvenSets cX1_findEvenSets 7 none ∈ gtbl := g_ix gT_2 22 rfl
set_option maxRecDepth 100000 in
theorem gi_X1_findEvenSets : Cond.initialized yX1_findEvenSets.cls ∈ gtbl := g_ix gT_2 23 rfl
set_option maxRecDepth 100000 in
theorem gh_X1_findEvenSets : yX1_findEvenSets.cls ≠ "java/lang/invoke/MethodHandle" ∧ yX1_findEvenSets.cls ≠ "java/lang/invoke/VarHandle" := ⟨by decide +kernel, by decide +kernel⟩
set_option maxRecDepth 100000 in
theorem gl_RX1_69 : Cond.methodLink RX1 69 yX1_partsOf ∈ gtbl := g_ix gT_2 24 rfl
set_option maxRecDepth 100000 in
theorem gn_X1_partsOf : Cond.instanceMethod yX1_partsOf ∈ gtbl := g_ix gT_2 25 rfl
set_option maxRecDepth 100000 in
theorem gs_X1_partsOf : Cond.selects (fR 1) yX1_partsOf yX1_partsOf ∈ gtbl := g_ix gT_2 26 rfl
set_option maxRecDepth 100000 in
theorem gp1_X1_partsOf : (parseMethodDescriptor yX1_partsOf.desc).map (fun d => d.parameters.length + 1) = some 3 := by decide +kernel
set_option maxRecDepth 100000 in
theorem gc_X1_partsOf : Cond.code yX1_partsOf cX1_partsOf 7 (some .int) ∈ gtbl := g_ix gT_2 27 rfl
set_option maxRecDepth 100000 in
theorem gi_X1_partsOf : Cond.initialized yX1_partsOf.cls ∈ gtbl := g_ix gT_2 28 rfl
set_option maxRecDepth 100000 in
theorem gh_X1_partsOf : yX1_partsOf.cls ≠ "java/lang/invoke/MethodHandle" ∧ yX1_partsOf.cls ≠ "java/lang/invoke/VarHandle" := ⟨by decide +kernel, by decide +kernel⟩
set_option maxRecDepth 100000 in
theorem gl_RX1_72 : Cond.methodLink RX1 72 yJ9_max_7cf53 ∈ gtbl := g_ix gT_2 29 rfl
set_option maxRecDepth 100000 in
theorem gl_RX1_77 : Cond.methodLink RX1 77 yJ6_numberOfTrailingZeros_0f7a4 ∈ gtbl := g_ix gT_2 30 rfl
set_option maxRecDepth 100000 in
theorem gt_J6_numberOfTrailingZeros_0f7a4 : Cond.static yJ6_numberOfTrailingZeros_0f7a4 ∈ gtbl := g_ix gT_2 31 rfl
set_option maxRecDepth 100000 in
theorem gp0_J6_numberOfTrailingZeros_0f7a4 : (parseMethodDescriptor yJ6_numberOfTrailingZeros_0f7a4.desc).map (fun d => d.parameters.length) = some 1 := by decide +kernel
set_option maxRecDepth 100000 in
theorem gc_J6_numberOfTrailingZeros_0f7a4 : Cond.code yJ6_numberOfTrailingZeros_0f7a4 prog_14_method_48_code 2 (some .int) ∈ gtbl := g_ix gT_2 32 rfl
set_option maxRecDepth 100000 in
theorem gi_J6_numberOfTrailingZeros_0f7a4 : Cond.initialized yJ6_numberOfTrailingZeros_0f7a4.cls ∈ gtbl := g_ix gT_2 33 rfl
set_option maxRecDepth 100000 in
theorem gh_J6_numberOfTrailingZeros_0f7a4 : yJ6_numberOfTrailingZeros_0f7a4.cls ≠ "java/lang/invoke/MethodHandle" ∧ yJ6_numberOfTrailingZeros_0f7a4.cls ≠ "java/lang/invoke/VarHandle" := ⟨by decide +kernel, by decide +kernel⟩
set_option maxRecDepth 100000 in
theorem gl_RX3_15 : Cond.methodLink RX3 15 yX3_shape ∈ gtbl := g_ix gT_2 34 rfl
set_option maxRecDepth 100000 in
theorem gn_X3_shape : Cond.instanceMethod yX3_shape ∈ gtbl := g_ix gT_2 35 rfl
set_option maxRecDepth 100000 in
theorem gs_X3_shape : Cond.selects (fR 3) yX3_shape yX3_shape ∈ gtbl := g_ix gT_2 36 rfl
set_option maxRecDepth 100000 in
theorem gp1_X3_shape : (parseMethodDescriptor yX3_shape.desc).map (fun d => d.parameters.length + 1) = some 4 := by decide +kernel
set_option maxRecDepth 100000 in
theorem gc_X3_shape : Cond.code yX3_shape cX3_shape 7 none ∈ gtbl := g_ix gT_2 37 rfl
set_option maxRecDepth 100000 in
theorem gi_X3_shape : Cond.initialized yX3_shape.cls ∈ gtbl := g_ix gT_2 38 rfl
set_option maxRecDepth 100000 in
theorem gh_X3_shape : yX3_shape.cls ≠ "java/lang/invoke/MethodHandle" ∧ yX3_shape.cls ≠ "java/lang/invoke/VarHandle" := ⟨by decide +kernel, by decide +kernel⟩
set_option maxRecDepth 100000 in
theorem gl_RX3_19 : Cond.methodLink RX3 19 yJ9_min_7cf53 ∈ gtbl := g_ix gT_2 39 rfl
set_option maxRecDepth 100000 in
theorem gl_RX3_25 : Cond.methodLink RX3 25 yJ9_max_7cf53 ∈ gtbl := g_ix gT_2 40 rfl
set_option maxRecDepth 100000 in
theorem gl_RX3_38 : Cond.methodLink RX3 38 yX3_found ∈ gtbl := g_ix gT_2 41 rfl
set_option maxRecDepth 100000 in
theorem gn_X3_found : Cond.instanceMethod yX3_found ∈ gtbl := g_ix gT_2 42 rfl
set_option maxRecDepth 100000 in
theorem gs_X3_found : Cond.selects (fR 3) yX3_found yX3_found ∈ gtbl := g_ix gT_2 43 rfl
set_option maxRecDepth 100000 in
theorem gp1_X3_found : (parseMethodDescriptor yX3_found.desc).map (fun d => d.parameters.length + 1) = some 5 := by decide +kernel
set_option maxRecDepth 100000 in
theorem gc_X3_found : Cond.code yX3_found cX3_found 7 (some .int) ∈ gtbl := g_ix gT_2 44 rfl
set_option maxRecDepth 100000 in
theorem gi_X3_found : Cond.initialized yX3_found.cls ∈ gtbl := g_ix gT_2 45 rfl
set_option maxRecDepth 100000 in
theorem gh_X3_found : yX3_found.cls ≠ "java/lang/invoke/MethodHandle" ∧ yX3_found.cls ≠ "java/lang/invoke/VarHandle" := ⟨by decide +kernel, by decide +kernel⟩
set_option maxRecDepth 100000 in
theorem gl_RX4_24 : Cond.methodLink RX4 24 yX4_markGaps ∈ gtbl := g_ix gT_2 46 rfl
set_option maxRecDepth 100000 in
theorem gn_X4_markGaps : Cond.instanceMethod yX4_markGaps ∈ gtbl := g_ix gT_2 47 rfl
set_option maxRecDepth 100000 in
theorem gs_X4_markGaps : Cond.selects (fR 4) yX4_markGaps yX4_markGaps ∈ gtbl := g_ix gT_2 48 rfl
set_option maxRecDepth 100000 in
theorem gp1_X4_markGaps : (parseMethodDescriptor yX4_markGaps.desc).map (fun d => d.parameters.length + 1) = some 3 := by decide +kernel
set_option maxRecDepth 100000 in
theorem gc_X4_markGaps : Cond.code yX4_markGaps cX4_markGaps 4 none ∈ gtbl := g_ix gT_2 49 rfl
set_option maxRecDepth 100000 in
theorem gi_X4_markGaps : Cond.initialized yX4_markGaps.cls ∈ gtbl := g_ix gT_3 0 rfl
set_option maxRecDepth 100000 in
theorem gh_X4_markGaps : yX4_markGaps.cls ≠ "java/lang/invoke/MethodHandle" ∧ yX4_markGaps.cls ≠ "java/lang/invoke/VarHandle" := ⟨by decide +kernel, by decide +kernel⟩
set_option maxRecDepth 100000 in
theorem gl_RX4_28 : Cond.methodLink RX4 28 yX4_markCell ∈ gtbl := g_ix gT_3 1 rfl
set_option maxRecDepth 100000 in
theorem gn_X4_markCell : Cond.instanceMethod yX4_markCell ∈ gtbl := g_ix gT_3 2 rfl
set_option maxRecDepth 100000 in
theorem gs_X4_markCell : Cond.selects (fR 4) yX4_markCell yX4_markCell ∈ gtbl := g_ix gT_3 3 rfl
set_option maxRecDepth 100000 in
theorem gp1_X4_markCell : (parseMethodDescriptor yX4_markCell.desc).map (fun d => d.parameters.length + 1) = some 5 := by decide +kernel
set_option maxRecDepth 100000 in
theorem gc_X4_markCell : Cond.code yX4_markCell cX4_markCell 7 none ∈ gtbl := g_ix gT_3 4 rfl
set_option maxRecDepth 100000 in
theorem gi_X4_markCell : Cond.initialized yX4_markCell.cls ∈ gtbl := g_ix gT_3 5 rfl
set_option maxRecDepth 100000 in
theorem gh_X4_markCell : yX4_markCell.cls ≠ "java/lang/invoke/MethodHandle" ∧ yX4_markCell.cls ≠ "java/lang/invoke/VarHandle" := ⟨by decide +kernel, by decide +kernel⟩
set_option maxRecDepth 100000 in
theorem gl_RX4_32 : Cond.methodLink RX4 32 yX7_isGap ∈ gtbl := g_ix gT_3 6 rfl
set_option maxRecDepth 100000 in
theorem gl_RX4_38 : Cond.methodLink RX4 38 yX4_mark ∈ gtbl := g_ix gT_3 7 rfl
set_option maxRecDepth 100000 in
theorem gn_X4_mark : Cond.instanceMethod yX4_mark ∈ gtbl := g_ix gT_3 8 rfl
set_option maxRecDepth 100000 in
theorem gs_X4_mark : Cond.selects (fR 4) yX4_mark yX4_mark ∈ gtbl := g_ix gT_3 9 rfl
set_option maxRecDepth 100000 in
theorem gp1_X4_mark : (parseMethodDescriptor yX4_mark.desc).map (fun d => d.parameters.length + 1) = some 4 := by decide +kernel
set_option maxRecDepth 100000 in
theorem gc_X4_mark : Cond.code yX4_mark cX4_mark 5 none ∈ gtbl := g_ix gT_3 10 rfl
set_option maxRecDepth 100000 in
theorem gi_X4_mark : Cond.initialized yX4_mark.cls ∈ gtbl := g_ix gT_3 11 rfl
set_option maxRecDepth 100000 in
theorem gh_X4_mark : yX4_mark.cls ≠ "java/lang/invoke/MethodHandle" ∧ yX4_mark.cls ≠ "java/lang/invoke/VarHandle" := ⟨by decide +kernel, by decide +kernel⟩
set_option maxRecDepth 100000 in
theorem gl_RX4_51 : Cond.methodLink RX4 51 yX4_leans ∈ gtbl := g_ix gT_3 12 rfl
set_option maxRecDepth 100000 in
theorem gn_X4_leans : Cond.instanceMethod yX4_leans ∈ gtbl := g_ix gT_3 13 rfl
set_option maxRecDepth 100000 in
theorem gs_X4_leans : Cond.selects (fR 4) yX4_leans yX4_leans ∈ gtbl := g_ix gT_3 14 rfl
set_option maxRecDepth 100000 in
theorem gp1_X4_leans : (parseMethodDescriptor yX4_leans.desc).map (fun d => d.parameters.length + 1) = some 6 := by decide +kernel
set_option maxRecDepth 100000 in
theorem gc_X4_leans : Cond.code yX4_leans cX4_leans 7 (some .boolean) ∈ gtbl := g_ix gT_3 15 rfl
set_option maxRecDepth 100000 in
theorem gi_X4_leans : Cond.initialized yX4_leans.cls ∈ gtbl := g_ix gT_3 16 rfl
set_option maxRecDepth 100000 in
theorem gh_X4_leans : yX4_leans.cls ≠ "java/lang/invoke/MethodHandle" ∧ yX4_leans.cls ≠ "java/lang/invoke/VarHandle" := ⟨by decide +kernel, by decide +kernel⟩
set_option maxRecDepth 100000 in
theorem gl_RX4_58 : Cond.methodLink RX4 58 yX4_has ∈ gtbl := g_ix gT_3 17 rfl
set_option maxRecDepth 100000 in
theorem gn_X4_has : Cond.instanceMethod yX4_has ∈ gtbl := g_ix gT_3 18 rfl
set_option maxRecDepth 100000 in
theorem gs_X4_has : Cond.selects (fR 4) yX4_has yX4_has ∈ gtbl := g_ix gT_3 19 rfl
set_option maxRecDepth 100000 in
theorem gp1_X4_has : (parseMethodDescriptor yX4_has.desc).map (fun d => d.parameters.length + 1) = some 4 := by decide +kernel
set_option maxRecDepth 100000 in
theorem gc_X4_has : Cond.code yX4_has cX4_has 5 (some .boolean) ∈ gtbl := g_ix gT_3 20 rfl
set_option maxRecDepth 100000 in
theorem gi_X4_has : Cond.initialized yX4_has.cls ∈ gtbl := g_ix gT_3 21 rfl
set_option maxRecDepth 100000 in
theorem gh_X4_has : yX4_has.cls ≠ "java/lang/invoke/MethodHandle" ∧ yX4_has.cls ≠ "java/lang/invoke/VarHandle" := ⟨by decide +kernel, by decide +kernel⟩
set_option maxRecDepth 100000 in
theorem gl_RX4_65 : Cond.methodLink RX4 65 yX5_end ∈ gtbl := g_ix gT_3 22 rfl
set_option maxRecDepth 100000 in
theorem gl_RX4_72 : Cond.methodLink RX4 72 yX4_isMarked ∈ gtbl := g_ix gT_3 23 rfl
set_option maxRecDepth 100000 in
theorem gn_X4_isMarked : Cond.instanceMethod yX4_isMarked ∈ gtbl := g_ix gT_3 24 rfl
set_option maxRecDepth 100000 in
theorem gs_X4_isMarked : Cond.selects (fR 4) yX4_isMarked yX4_isMarked ∈ gtbl := g_ix gT_3 25 rfl
set_option maxRecDepth 100000 in
theorem gp1_X4_isMarked : (parseMethodDescriptor yX4_isMarked.desc).map (fun d => d.parameters.length + 1) = some 5 := by decide +kernel
set_option maxRecDepth 100000 in
theorem gc_X4_isMarked : Cond.code yX4_isMarked cX4_isMarked 6 (some .boolean) ∈ gtbl := g_ix gT_3 26 rfl
set_option maxRecDepth 100000 in
theorem gi_X4_isMarked : Cond.initialized yX4_isMarked.cls ∈ gtbl := g_ix gT_3 27 rfl
set_option maxRecDepth 100000 in
theorem gh_X4_isMarked : yX4_isMarked.cls ≠ "java/lang/invoke/MethodHandle" ∧ yX4_isMarked.cls ≠ "java/lang/invoke/VarHandle" := ⟨by decide +kernel, by decide +kernel⟩
set_option maxRecDepth 100000 in
theorem gl_RX4_79 : Cond.methodLink RX4 79 yX5_sideOf ∈ gtbl := g_ix gT_3 28 rfl
set_option maxRecDepth 100000 in
theorem gl_RX4_82 : Cond.methodLink RX4 82 yX3_beside ∈ gtbl := g_ix gT_3 29 rfl
set_option maxRecDepth 100000 in
theorem gl_RX4_86 : Cond.methodLink RX4 86 yX5_isNow ∈ gtbl := g_ix gT_3 30 rfl
set_option maxRecDepth 100000 in
theorem gl_RX4_90 : Cond.methodLink RX4 90 yX5_letterOf ∈ gtbl := g_ix gT_3 31 rfl
set_option maxRecDepth 100000 in
theorem gl_RX5_40 : Cond.methodLink RX5 40 yX5_clear ∈ gtbl := g_ix gT_3 32 rfl
set_option maxRecDepth 100000 in
theorem gn_X5_clear : Cond.instanceMethod yX5_clear ∈ gtbl := g_ix gT_3 33 rfl
set_option maxRecDepth 100000 in
theorem gs_X5_clear : Cond.selects (fR 5) yX5_clear yX5_clear ∈ gtbl := g_ix gT_3 34 rfl
set_option maxRecDepth 100000 in
theorem gp1_X5_clear : (parseMethodDescriptor yX5_clear.desc).map (fun d => d.parameters.length + 1) = some 1 := by decide +kernel
set_option maxRecDepth 100000 in
theorem gc_X5_clear : Cond.code yX5_clear cX5_clear 2 none ∈ gtbl := g_ix gT_3 35 rfl
set_option maxRecDepth 100000 in
theorem gi_X5_clear : Cond.initialized yX5_clear.cls ∈ gtbl := g_ix gT_3 36 rfl
set_option maxRecDepth 100000 in
theorem gh_X5_clear : yX5_clear.cls ≠ "java/lang/invoke/MethodHandle" ∧ yX5_clear.cls ≠ "java/lang/invoke/VarHandle" := ⟨by decide +kernel, by decide +kernel⟩
set_option maxRecDepth 100000 in
theorem gl_RX5_50 : Cond.methodLink RX5 50 yJ9_min_7cf53 ∈ gtbl := g_ix gT_3 37 rfl
set_option maxRecDepth 100000 in
theorem gl_RX5_56 : Cond.methodLink RX5 56 yX5_end ∈ gtbl := g_ix gT_3 38 rfl
set_option maxRecDepth 100000 in
theorem gl_RX5_60 : Cond.methodLink RX5 60 yX5_letterOf ∈ gtbl := g_ix gT_3 39 rfl
set_option maxRecDepth 100000 in
theorem gl_RX5_63 : Cond.methodLink RX5 63 yX5_isNow ∈ gtbl := g_ix gT_3 40 rfl
set_option maxRecDepth 100000 in
theorem gl_RX5_67 : Cond.methodLink RX5 67 yX5_hasProduct ∈ gtbl := g_ix gT_3 41 rfl
set_option maxRecDepth 100000 in
theorem gn_X5_hasProduct : Cond.instanceMethod yX5_hasProduct ∈ gtbl := g_ix gT_3 42 rfl
set_option maxRecDepth 100000 in
theorem gs_X5_hasProduct : Cond.selects (fR 5) yX5_hasProduct yX5_hasProduct ∈ gtbl := g_ix gT_3 43 rfl
set_option maxRecDepth 100000 in
theorem gp1_X5_hasProduct : (parseMethodDescriptor yX5_hasProduct.desc).map (fun d => d.parameters.length + 1) = some 2 := by decide +kernel
set_option maxRecDepth 100000 in
theorem gc_X5_hasProduct : Cond.code yX5_hasProduct cX5_hasProduct 3 (some .boolean) ∈ gtbl := g_ix gT_3 44 rfl
set_option maxRecDepth 100000 in
theorem gi_X5_hasProduct : Cond.initialized yX5_hasProduct.cls ∈ gtbl := g_ix gT_3 45 rfl
set_option maxRecDepth 100000 in
theorem gh_X5_hasProduct : yX5_hasProduct.cls ≠ "java/lang/invoke/MethodHandle" ∧ yX5_hasProduct.cls ≠ "java/lang/invoke/VarHandle" := ⟨by decide +kernel, by decide +kernel⟩
set_option maxRecDepth 100000 in
theorem gl_RX5_70 : Cond.methodLink RX5 70 yJ9_abs_0f7a4 ∈ gtbl := g_ix gT_3 46 rfl
set_option maxRecDepth 100000 in
theorem gt_J9_abs_0f7a4 : Cond.static yJ9_abs_0f7a4 ∈ gtbl := g_ix gT_3 47 rfl
set_option maxRecDepth 100000 in
theorem gp0_J9_abs_0f7a4 : (parseMethodDescriptor yJ9_abs_0f7a4.desc).map (fun d => d.parameters.length) = some 1 := by decide +kernel
set_option maxRecDepth 100000 in
theorem gc_J9_abs_0f7a4 : Cond.code yJ9_abs_0f7a4 prog_15_method_59_code 1 (some .int) ∈ gtbl := g_ix gT_3 48 rfl
set_option maxRecDepth 100000 in
theorem gi_J9_abs_0f7a4 : Cond.initialized yJ9_abs_0f7a4.cls ∈ gtbl := g_ix gT_3 49 rfl
set_option maxRecDepth 100000 in
theorem gh_J9_abs_0f7a4 : yJ9_abs_0f7a4.cls ≠ "java/lang/invoke/MethodHandle" ∧ yJ9_abs_0f7a4.cls ≠ "java/lang/invoke/VarHandle" := ⟨by decide +kernel, by decide +kernel⟩
set_option maxRecDepth 100000 in
theorem gl_RX5_80 : Cond.methodLink RX5 80 yJ9_floorDiv_f86c9 ∈ gtbl := g_ix gT_4 0 rfl
set_option maxRecDepth 100000 in
theorem gt_J9_floorDiv_f86c9 : Cond.static yJ9_floorDiv_f86c9 ∈ gtbl := g_ix gT_4 1 rfl
set_option maxRecDepth 100000 in
theorem gp0_J9_floorDiv_f86c9 : (parseMethodDescriptor yJ9_floorDiv_f86c9.desc).map (fun d => d.parameters.length) = some 2 := by decide +kernel
set_option maxRecDepth 100000 in
theorem gc_J9_floorDiv_f86c9 : Cond.code yJ9_floorDiv_f86c9 prog_15_method_49_code 6 (some .long) ∈ gtbl := g_ix gT_4 2 rfl
set_option maxRecDepth 100000 in
theorem gi_J9_floorDiv_f86c9 : Cond.initialized yJ9_floorDiv_f86c9.cls ∈ gtbl := g_ix gT_4 3 rfl
set_option maxRecDepth 100000 in
theorem gh_J9_floorDiv_f86c9 : yJ9_floorDiv_f86c9.cls ≠ "java/lang/invoke/MethodHandle" ∧ yJ9_floorDiv_f86c9.cls ≠ "java/lang/invoke/VarHandle" := ⟨by decide +kernel, by decide +kernel⟩
set_option maxRecDepth 100000 in
theorem gl_RX6_17 : Cond.methodLink RX6 17 yX5_init ∈ gtbl := g_ix gT_4 4 rfl
set_option maxRecDepth 100000 in
theorem gn_X5_init : Cond.instanceMethod yX5_init ∈ gtbl := g_ix gT_4 5 rfl
set_option maxRecDepth 100000 in
theorem gp1_X5_init : (parseMethodDescriptor yX5_init.desc).map (fun d => d.parameters.length + 1) = some 1 := by decide +kernel
set_option maxRecDepth 100000 in
theorem gc_X5_init : Cond.code yX5_init cX5_init 1 none ∈ gtbl := g_ix gT_4 6 rfl
set_option maxRecDepth 100000 in
theorem gi_X5_init : Cond.initialized yX5_init.cls ∈ gtbl := g_ix gT_4 7 rfl
set_option maxRecDepth 100000 in
theorem gh_X5_init : yX5_init.cls ≠ "java/lang/invoke/MethodHandle" ∧ yX5_init.cls ≠ "java/lang/invoke/VarHandle" := ⟨by decide +kernel, by decide +kernel⟩
set_option maxRecDepth 100000 in
theorem gl_RX6_26 : Cond.methodLink RX6 26 yX5_clear ∈ gtbl := g_ix gT_4 8 rfl
set_option maxRecDepth 100000 in
theorem gl_RX6_32 : Cond.methodLink RX6 32 yX6_readLine ∈ gtbl := g_ix gT_4 9 rfl
set_option maxRecDepth 100000 in
theorem gn_X6_readLine : Cond.instanceMethod yX6_readLine ∈ gtbl := g_ix gT_4 10 rfl
set_option maxRecDepth 100000 in
theorem gs_X6_readLine : Cond.selects (fR 6) yX6_readLine yX6_readLine ∈ gtbl := g_ix gT_4 11 rfl
set_option maxRecDepth 100000 in
theorem gp1_X6_readLine : (parseMethodDescriptor yX6_readLine.desc).map (fun d => d.parameters.length + 1) = some 1 := by decide +kernel
set_option maxRecDepth 100000 in
theorem gc_X6_readLine : Cond.code yX6_readLine cX6_readLine 3 (some .boolean) ∈ gtbl := g_ix gT_4 12 rfl
set_option maxRecDepth 100000 in
theorem gi_X6_readLine : Cond.initialized yX6_readLine.cls ∈ gtbl := g_ix gT_4 13 rfl
set_option maxRecDepth 100000 in
theorem gh_X6_readLine : yX6_readLine.cls ≠ "java/lang/invoke/MethodHandle" ∧ yX6_readLine.cls ≠ "java/lang/invoke/VarHandle" := ⟨by decide +kernel, by decide +kernel⟩
set_option maxRecDepth 100000 in
theorem gl_RX6_39 : Cond.methodLink RX6 39 yX6_ahead ∈ gtbl := g_ix gT_4 14 rfl
set_option maxRecDepth 100000 in
theorem gn_X6_ahead : Cond.instanceMethod yX6_ahead ∈ gtbl := g_ix gT_4 15 rfl
set_option maxRecDepth 100000 in
theorem gs_X6_ahead : Cond.selects (fR 6) yX6_ahead yX6_ahead ∈ gtbl := g_ix gT_4 16 rfl
set_option maxRecDepth 100000 in
theorem gp1_X6_ahead : (parseMethodDescriptor yX6_ahead.desc).map (fun d => d.parameters.length + 1) = some 1 := by decide +kernel
set_option maxRecDepth 100000 in
theorem gc_X6_ahead : Cond.code yX6_ahead cX6_ahead 1 (some .int) ∈ gtbl := g_ix gT_4 17 rfl
set_option maxRecDepth 100000 in
theorem gi_X6_ahead : Cond.initialized yX6_ahead.cls ∈ gtbl := g_ix gT_4 18 rfl
set_option maxRecDepth 100000 in
theorem gh_X6_ahead : yX6_ahead.cls ≠ "java/lang/invoke/MethodHandle" ∧ yX6_ahead.cls ≠ "java/lang/invoke/VarHandle" := ⟨by decide +kernel, by decide +kernel⟩
set_option maxRecDepth 100000 in
theorem gt_X10_isLetter : Cond.static yX10_isLetter ∈ gtbl := g_ix gT_4 19 rfl
set_option maxRecDepth 100000 in
theorem gp0_X10_isLetter : (parseMethodDescriptor yX10_isLetter.desc).map (fun d => d.parameters.length) = some 1 := by decide +kernel
set_option maxRecDepth 100000 in
theorem gc_X10_isLetter : Cond.code yX10_isLetter cX10_isLetter 1 (some .boolean) ∈ gtbl := g_ix gT_4 20 rfl
set_option maxRecDepth 100000 in
theorem gi_X10_isLetter : Cond.initialized yX10_isLetter.cls ∈ gtbl := g_ix gT_4 21 rfl
set_option maxRecDepth 100000 in
theorem gh_X10_isLetter : yX10_isLetter.cls ≠ "java/lang/invoke/MethodHandle" ∧ yX10_isLetter.cls ≠ "java/lang/invoke/VarHandle" := ⟨by decide +kernel, by decide +kernel⟩
set_option maxRecDepth 100000 in
theorem gl_RX6_50 : Cond.methodLink RX6 50 yX6_refuse ∈ gtbl := g_ix gT_4 22 rfl
set_option maxRecDepth 100000 in
theorem gn_X6_refuse : Cond.instanceMethod yX6_refuse ∈ gtbl := g_ix gT_4 23 rfl
set_option maxRecDepth 100000 in
theorem gs_X6_refuse : Cond.selects (fR 6) yX6_refuse yX6_refuse ∈ gtbl := g_ix gT_4 24 rfl
set_option maxRecDepth 100000 in
theorem gp1_X6_refuse : (parseMethodDescriptor yX6_refuse.desc).map (fun d => d.parameters.length + 1) = some 2 := by decide +kernel
set_option maxRecDepth 100000 in
theorem gc_X6_refuse : Cond.code yX6_refuse cX6_refuse 2 (some .boolean) ∈ gtbl := g_ix gT_4 25 rfl
set_option maxRecDepth 100000 in
theorem gi_X6_refuse : Cond.initialized yX6_refuse.cls ∈ gtbl := g_ix gT_4 26 rfl
set_option maxRecDepth 100000 in
theorem gh_X6_refuse : yX6_refuse.cls ≠ "java/lang/invoke/MethodHandle" ∧ yX6_refuse.cls ≠ "java/lang/invoke/VarHandle" := ⟨by decide +kernel, by decide +kernel⟩
set_option maxRecDepth 100000 in
theorem gl_RX6_53 : Cond.methodLink RX6 53 yX6_pass ∈ gtbl := g_ix gT_4 27 rfl
set_option maxRecDepth 100000 in
theorem gn_X6_pass : Cond.instanceMethod yX6_pass ∈ gtbl := g_ix gT_4 28 rfl
set_option maxRecDepth 100000 in
theorem gs_X6_pass : Cond.selects (fR 6) yX6_pass yX6_pass ∈ gtbl := g_ix gT_4 29 rfl
set_option maxRecDepth 100000 in
theorem gp1_X6_pass : (parseMethodDescriptor yX6_pass.desc).map (fun d => d.parameters.length + 1) = some 2 := by decide +kernel
set_option maxRecDepth 100000 in
theorem gc_X6_pass : Cond.code yX6_pass cX6_pass 2 (some .boolean) ∈ gtbl := g_ix gT_4 30 rfl
set_option maxRecDepth 100000 in
theorem gi_X6_pass : Cond.initialized yX6_pass.cls ∈ gtbl := g_ix gT_4 31 rfl
set_option maxRecDepth 100000 in
theorem gh_X6_pass : yX6_pass.cls ≠ "java/lang/invoke/MethodHandle" ∧ yX6_pass.cls ≠ "java/lang/invoke/VarHandle" := ⟨by decide +kernel, by decide +kernel⟩
set_option maxRecDepth 100000 in
theorem gl_RX6_62 : Cond.methodLink RX6 62 yX6_readTerm ∈ gtbl := g_ix gT_4 32 rfl
set_option maxRecDepth 100000 in
theorem gn_X6_readTerm : Cond.instanceMethod yX6_readTerm ∈ gtbl := g_ix gT_4 33 rfl
set_option maxRecDepth 100000 in
theorem gs_X6_readTerm : Cond.selects (fR 6) yX6_readTerm yX6_readTerm ∈ gtbl := g_ix gT_4 34 rfl
set_option maxRecDepth 100000 in
theorem gp1_X6_readTerm : (parseMethodDescriptor yX6_readTerm.desc).map (fun d => d.parameters.length + 1) = some 1 := by decide +kernel
set_option maxRecDepth 100000 in
theorem gc_X6_readTerm : Cond.code yX6_readTerm cX6_readTerm 5 (some .boolean) ∈ gtbl := g_ix gT_4 35 rfl
set_option maxRecDepth 100000 in
theorem gi_X6_readTerm : Cond.initialized yX6_readTerm.cls ∈ gtbl := g_ix gT_4 36 rfl
set_option maxRecDepth 100000 in
theorem gh_X6_readTerm : yX6_readTerm.cls ≠ "java/lang/invoke/MethodHandle" ∧ yX6_readTerm.cls ≠ "java/lang/invoke/VarHandle" := ⟨by decide +kernel, by decide +kernel⟩
set_option maxRecDepth 100000 in
theorem gl_RX6_65 : Cond.methodLink RX6 65 yX6_readNumber ∈ gtbl := g_ix gT_4 37 rfl
set_option maxRecDepth 100000 in
theorem gn_X6_readNumber : Cond.instanceMethod yX6_readNumber ∈ gtbl := g_ix gT_4 38 rfl
set_option maxRecDepth 100000 in
theorem gs_X6_readNumber : Cond.selects (fR 6) yX6_readNumber yX6_readNumber ∈ gtbl := g_ix gT_4 39 rfl
set_option maxRecDepth 100000 in
theorem gp1_X6_readNumber : (parseMethodDescriptor yX6_readNumber.desc).map (fun d => d.parameters.length + 1) = some 2 := by decide +kernel
set_option maxRecDepth 100000 in
theorem gc_X6_readNumber : Cond.code yX6_readNumber cX6_readNumber 5 (some .boolean) ∈ gtbl := g_ix gT_4 40 rfl
set_option maxRecDepth 100000 in
theorem gi_X6_readNumber : Cond.initialized yX6_readNumber.cls ∈ gtbl := g_ix gT_4 41 rfl
set_option maxRecDepth 100000 in
theorem gh_X6_readNumber : yX6_readNumber.cls ≠ "java/lang/invoke/MethodHandle" ∧ yX6_readNumber.cls ≠ "java/lang/invoke/VarHandle" := ⟨by decide +kernel, by decide +kernel⟩
set_option maxRecDepth 100000 in
theorem gl_RX6_78 : Cond.methodLink RX6 78 yX5_closeLine ∈ gtbl := g_ix gT_4 42 rfl
set_option maxRecDepth 100000 in
theorem gn_X5_closeLine : Cond.instanceMethod yX5_closeLine ∈ gtbl := g_ix gT_4 43 rfl
set_option maxRecDepth 100000 in
theorem gs_X5_closeLine : Cond.selects (fR 5) yX5_closeLine yX5_closeLine ∈ gtbl := g_ix gT_4 44 rfl
set_option maxRecDepth 100000 in
theorem gp1_X5_closeLine : (parseMethodDescriptor yX5_closeLine.desc).map (fun d => d.parameters.length + 1) = some 2 := by decide +kernel
set_option maxRecDepth 100000 in
theorem gc_X5_closeLine : Cond.code yX5_closeLine cX5_closeLine 4 none ∈ gtbl := g_ix gT_4 45 rfl
set_option maxRecDepth 100000 in
theorem gi_X5_closeLine : Cond.initialized yX5_closeLine.cls ∈ gtbl := g_ix gT_4 46 rfl
set_option maxRecDepth 100000 in
theorem gh_X5_closeLine : yX5_closeLine.cls ≠ "java/lang/invoke/MethodHandle" ∧ yX5_closeLine.cls ≠ "java/lang/invoke/VarHandle" := ⟨by decide +kernel, by decide +kernel⟩
set_option maxRecDepth 100000 in
theorem gl_RX6_82 : Cond.methodLink RX6 82 yX6_isFigure ∈ gtbl := g_ix gT_4 47 rfl
set_option maxRecDepth 100000 in
theorem gn_X6_isFigure : Cond.instanceMethod yX6_isFigure ∈ gtbl := g_ix gT_4 48 rfl
set_option maxRecDepth 100000 in
theorem gs_X6_isFigure : Cond.selects (fR 6) yX6_isFigure yX6_isFigure ∈ gtbl := g_ix gT_4 49 rfl
set_option maxRecDepth 100000 in
theorem gp1_X6_isFigure : (parseMethodDescriptor yX6_isFigure.desc).map (fun d => d.parameters.length + 1) = some 1 := by decide +kernel
set_option maxRecDepth 100000 in
theorem gc_X6_isFigure : Cond.code yX6_isFigure cX6_isFigure 1 (some .boolean) ∈ gtbl := g_ix gT_5 0 rfl
set_option maxRecDepth 100000 in
theorem gi_X6_isFigure : Cond.initialized yX6_isFigure.cls ∈ gtbl := g_ix gT_5 1 rfl
set_option maxRecDepth 100000 in
theorem gh_X6_isFigure : yX6_isFigure.cls ≠ "java/lang/invoke/MethodHandle" ∧ yX6_isFigure.cls ≠ "java/lang/invoke/VarHandle" := ⟨by decide +kernel, by decide +kernel⟩
set_option maxRecDepth 100000 in
theorem gl_RX6_85 : Cond.methodLink RX6 85 yX6_readName ∈ gtbl := g_ix gT_5 2 rfl
set_option maxRecDepth 100000 in
theorem gn_X6_readName : Cond.instanceMethod yX6_readName ∈ gtbl := g_ix gT_5 3 rfl
set_option maxRecDepth 100000 in
theorem gs_X6_readName : Cond.selects (fR 6) yX6_readName yX6_readName ∈ gtbl := g_ix gT_5 4 rfl
set_option maxRecDepth 100000 in
theorem gp1_X6_readName : (parseMethodDescriptor yX6_readName.desc).map (fun d => d.parameters.length + 1) = some 1 := by decide +kernel
set_option maxRecDepth 100000 in
theorem gc_X6_readName : Cond.code yX6_readName cX6_readName 4 (some .boolean) ∈ gtbl := g_ix gT_5 5 rfl
set_option maxRecDepth 100000 in
theorem gi_X6_readName : Cond.initialized yX6_readName.cls ∈ gtbl := g_ix gT_5 6 rfl
set_option maxRecDepth 100000 in
theorem gh_X6_readName : yX6_readName.cls ≠ "java/lang/invoke/MethodHandle" ∧ yX6_readName.cls ≠ "java/lang/invoke/VarHandle" := ⟨by decide +kernel, by decide +kernel⟩
set_option maxRecDepth 100000 in
theorem gl_RX6_88 : Cond.methodLink RX6 88 yX5_addTerm ∈ gtbl := g_ix gT_5 7 rfl
set_option maxRecDepth 100000 in
theorem gn_X5_addTerm : Cond.instanceMethod yX5_addTerm ∈ gtbl := g_ix gT_5 8 rfl
set_option maxRecDepth 100000 in
theorem gs_X5_addTerm : Cond.selects (fR 5) yX5_addTerm yX5_addTerm ∈ gtbl := g_ix gT_5 9 rfl
set_option maxRecDepth 100000 in
theorem gp1_X5_addTerm : (parseMethodDescriptor yX5_addTerm.desc).map (fun d => d.parameters.length + 1) = some 4 := by decide +kernel
set_option maxRecDepth 100000 in
theorem gc_X5_addTerm : Cond.code yX5_addTerm cX5_addTerm 4 none ∈ gtbl := g_ix gT_5 10 rfl
set_option maxRecDepth 100000 in
theorem gi_X5_addTerm : Cond.initialized yX5_addTerm.cls ∈ gtbl := g_ix gT_5 11 rfl
set_option maxRecDepth 100000 in
theorem gh_X5_addTerm : yX5_addTerm.cls ≠ "java/lang/invoke/MethodHandle" ∧ yX5_addTerm.cls ≠ "java/lang/invoke/VarHandle" := ⟨by decide +kernel, by decide +kernel⟩
set_option maxRecDepth 100000 in
theorem gl_RX6_92 : Cond.methodLink RX6 92 yJ9_min_7cf53 ∈ gtbl := g_ix gT_5 12 rfl
set_option maxRecDepth 100000 in
theorem gl_RX6_98 : Cond.methodLink RX6 98 yX6_sideAhead ∈ gtbl := g_ix gT_5 13 rfl
set_option maxRecDepth 100000 in
theorem gn_X6_sideAhead : Cond.instanceMethod yX6_sideAhead ∈ gtbl := g_ix gT_5 14 rfl
set_option maxRecDepth 100000 in
theorem gs_X6_sideAhead : Cond.selects (fR 6) yX6_sideAhead yX6_sideAhead ∈ gtbl := g_ix gT_5 15 rfl
set_option maxRecDepth 100000 in
theorem gp1_X6_sideAhead : (parseMethodDescriptor yX6_sideAhead.desc).map (fun d => d.parameters.length + 1) = some 1 := by decide +kernel
set_option maxRecDepth 100000 in
theorem gc_X6_sideAhead : Cond.code yX6_sideAhead cX6_sideAhead 1 (some .int) ∈ gtbl := g_ix gT_5 16 rfl
set_option maxRecDepth 100000 in
theorem gi_X6_sideAhead : Cond.initialized yX6_sideAhead.cls ∈ gtbl := g_ix gT_5 17 rfl
set_option maxRecDepth 100000 in
theorem gh_X6_sideAhead : yX6_sideAhead.cls ≠ "java/lang/invoke/MethodHandle" ∧ yX6_sideAhead.cls ≠ "java/lang/invoke/VarHandle" := ⟨by decide +kernel, by decide +kernel⟩
set_option maxRecDepth 100000 in
theorem gl_RX7_11 : Cond.methodLink RX7 11 yX5_init ∈ gtbl := g_ix gT_5 18 rfl
set_option maxRecDepth 100000 in
theorem gl_RX7_37 : Cond.methodLink RX7 37 yX7_clearFirsts ∈ gtbl := g_ix gT_5 19 rfl
set_option maxRecDepth 100000 in
theorem gn_X7_clearFirsts : Cond.instanceMethod yX7_clearFirsts ∈ gtbl := g_ix gT_5 20 rfl
set_option maxRecDepth 100000 in
theorem gs_X7_clearFirsts : Cond.selects (fR 7) yX7_clearFirsts yX7_clearFirsts ∈ gtbl := g_ix gT_5 21 rfl
set_option maxRecDepth 100000 in
theorem gp1_X7_clearFirsts : (parseMethodDescriptor yX7_clearFirsts.desc).map (fun d => d.parameters.length + 1) = some 1 := by decide +kernel
set_option maxRecDepth 100000 in
theorem gc_X7_clearFirsts : Cond.code yX7_clearFirsts cX7_clearFirsts 2 none ∈ gtbl := g_ix gT_5 22 rfl
set_option maxRecDepth 100000 in
theorem gi_X7_clearFirsts : Cond.initialized yX7_clearFirsts.cls ∈ gtbl := g_ix gT_5 23 rfl
set_option maxRecDepth 100000 in
theorem gh_X7_clearFirsts : yX7_clearFirsts.cls ≠ "java/lang/invoke/MethodHandle" ∧ yX7_clearFirsts.cls ≠ "java/lang/invoke/VarHandle" := ⟨by decide +kernel, by decide +kernel⟩
set_option maxRecDepth 100000 in
theorem gl_RX7_41 : Cond.methodLink RX7 41 yX5_takeAll ∈ gtbl := g_ix gT_5 24 rfl
set_option maxRecDepth 100000 in
theorem gn_X5_takeAll : Cond.instanceMethod yX5_takeAll ∈ gtbl := g_ix gT_5 25 rfl
set_option maxRecDepth 100000 in
theorem gs_X5_takeAll : Cond.selects (fR 5) yX5_takeAll yX5_takeAll ∈ gtbl := g_ix gT_5 26 rfl
set_option maxRecDepth 100000 in
theorem gp1_X5_takeAll : (parseMethodDescriptor yX5_takeAll.desc).map (fun d => d.parameters.length + 1) = some 2 := by decide +kernel
set_option maxRecDepth 100000 in
theorem gc_X5_takeAll : Cond.code yX5_takeAll cX5_takeAll 3 none ∈ gtbl := g_ix gT_5 27 rfl
set_option maxRecDepth 100000 in
theorem gi_X5_takeAll : Cond.initialized yX5_takeAll.cls ∈ gtbl := g_ix gT_5 28 rfl
set_option maxRecDepth 100000 in
theorem gh_X5_takeAll : yX5_takeAll.cls ≠ "java/lang/invoke/MethodHandle" ∧ yX5_takeAll.cls ≠ "java/lang/invoke/VarHandle" := ⟨by decide +kernel, by decide +kernel⟩
set_option maxRecDepth 100000 in
theorem gl_RX7_55 : Cond.methodLink RX7 55 yX7_firstAt ∈ gtbl := g_ix gT_5 29 rfl
set_option maxRecDepth 100000 in
theorem gl_RX7_59 : Cond.methodLink RX7 59 yX3_beside ∈ gtbl := g_ix gT_5 30 rfl
set_option maxRecDepth 100000 in
theorem gl_RX7_64 : Cond.methodLink RX7 64 yJ9_floorDiv_7cf53 ∈ gtbl := g_ix gT_5 31 rfl
set_option maxRecDepth 100000 in
theorem gt_J9_floorDiv_7cf53 : Cond.static yJ9_floorDiv_7cf53 ∈ gtbl := g_ix gT_5 32 rfl
set_option maxRecDepth 100000 in
theorem gp0_J9_floorDiv_7cf53 : (parseMethodDescriptor yJ9_floorDiv_7cf53.desc).map (fun d => d.parameters.length) = some 2 := by decide +kernel
set_option maxRecDepth 100000 in
theorem gc_J9_floorDiv_7cf53 : Cond.code yJ9_floorDiv_7cf53 prog_15_method_47_code 3 (some .int) ∈ gtbl := g_ix gT_5 33 rfl
set_option maxRecDepth 100000 in
theorem gi_J9_floorDiv_7cf53 : Cond.initialized yJ9_floorDiv_7cf53.cls ∈ gtbl := g_ix gT_5 34 rfl
set_option maxRecDepth 100000 in
theorem gh_J9_floorDiv_7cf53 : yJ9_floorDiv_7cf53.cls ≠ "java/lang/invoke/MethodHandle" ∧ yJ9_floorDiv_7cf53.cls ≠ "java/lang/invoke/VarHandle" := ⟨by decide +kernel, by decide +kernel⟩
set_option maxRecDepth 100000 in
theorem gn_X9_init : Cond.instanceMethod yX9_init ∈ gtbl := g_ix gT_5 35 rfl
set_option maxRecDepth 100000 in
theorem gp1_X9_init : (parseMethodDescriptor yX9_init.desc).map (fun d => d.parameters.length + 1) = some 1 := by decide +kernel
set_option maxRecDepth 100000 in
theorem gc_X9_init : Cond.code yX9_init cX9_init 1 none ∈ gtbl := g_ix gT_5 36 rfl
set_option maxRecDepth 100000 in
theorem gi_X9_init : Cond.initialized yX9_init.cls ∈ gtbl := g_ix gT_5 37 rfl
set_option maxRecDepth 100000 in
theorem gh_X9_init : yX9_init.cls ≠ "java/lang/invoke/MethodHandle" ∧ yX9_init.cls ≠ "java/lang/invoke/VarHandle" := ⟨by decide +kernel, by decide +kernel⟩
set_option maxRecDepth 100000 in
theorem gl_RX8_38 : Cond.methodLink RX8 38 yX9_deal ∈ gtbl := g_ix gT_5 38 rfl
set_option maxRecDepth 100000 in
theorem gn_X9_deal : Cond.instanceMethod yX9_deal ∈ gtbl := g_ix gT_5 39 rfl
set_option maxRecDepth 100000 in
theorem gs_X9_deal : Cond.selects (fR 9) yX9_deal yX9_deal ∈ gtbl := g_ix gT_5 40 rfl
set_option maxRecDepth 100000 in
theorem gp1_X9_deal : (parseMethodDescriptor yX9_deal.desc).map (fun d => d.parameters.length + 1) = some 4 := by decide +kernel
set_option maxRecDepth 100000 in
theorem gc_X9_deal : Cond.code yX9_deal cX9_deal 6 none ∈ gtbl := g_ix gT_5 41 rfl
set_option maxRecDepth 100000 in
theorem gi_X9_deal : Cond.initialized yX9_deal.cls ∈ gtbl := g_ix gT_5 42 rfl
set_option maxRecDepth 100000 in
theorem gh_X9_deal : yX9_deal.cls ≠ "java/lang/invoke/MethodHandle" ∧ yX9_deal.cls ≠ "java/lang/invoke/VarHandle" := ⟨by decide +kernel, by decide +kernel⟩
set_option maxRecDepth 100000 in
theorem gl_RX8_42 : Cond.methodLink RX8 42 yX9_endsAhead ∈ gtbl := g_ix gT_5 43 rfl
set_option maxRecDepth 100000 in
theorem gn_X9_endsAhead : Cond.instanceMethod yX9_endsAhead ∈ gtbl := g_ix gT_5 44 rfl
set_option maxRecDepth 100000 in
theorem gs_X9_endsAhead : Cond.selects (fR 9) yX9_endsAhead yX9_endsAhead ∈ gtbl := g_ix gT_5 45 rfl
set_option maxRecDepth 100000 in
theorem gp1_X9_endsAhead : (parseMethodDescriptor yX9_endsAhead.desc).map (fun d => d.parameters.length + 1) = some 5 := by decide +kernel
set_option maxRecDepth 100000 in
theorem gc_X9_endsAhead : Cond.code yX9_endsAhead cX9_endsAhead 6 (some .boolean) ∈ gtbl := g_ix gT_5 46 rfl
set_option maxRecDepth 100000 in
theorem gi_X9_endsAhead : Cond.initialized yX9_endsAhead.cls ∈ gtbl := g_ix gT_5 47 rfl
set_option maxRecDepth 100000 in
theorem gh_X9_endsAhead : yX9_endsAhead.cls ≠ "java/lang/invoke/MethodHandle" ∧ yX9_endsAhead.cls ≠ "java/lang/invoke/VarHandle" := ⟨by decide +kernel, by decide +kernel⟩
set_option maxRecDepth 100000 in
theorem gl_RX8_46 : Cond.methodLink RX8 46 yX8_take ∈ gtbl := g_ix gT_5 48 rfl
set_option maxRecDepth 100000 in
theorem gn_X8_take : Cond.instanceMethod yX8_take ∈ gtbl := g_ix gT_5 49 rfl
set_option maxRecDepth 100000 in
theorem gs_X8_take : Cond.selects (fR 8) yX8_take yX8_take ∈ gtbl := g_ix gT_6 0 rfl
set_option maxRecDepth 100000 in
theorem gp1_X8_take : (parseMethodDescriptor yX8_take.desc).map (fun d => d.parameters.length + 1) = some 2 := by decide +kernel
set_option maxRecDepth 100000 in
theorem gc_X8_take : Cond.code yX8_take cX8_take 3 none ∈ gtbl := g_ix gT_6 1 rfl
set_option maxRecDepth 100000 in
theorem gi_X8_take : Cond.initialized yX8_take.cls ∈ gtbl := g_ix gT_6 2 rfl
set_option maxRecDepth 100000 in
theorem gh_X8_take : yX8_take.cls ≠ "java/lang/invoke/MethodHandle" ∧ yX8_take.cls ≠ "java/lang/invoke/VarHandle" := ⟨by decide +kernel, by decide +kernel⟩
set_option maxRecDepth 100000 in
theorem gl_RX8_50 : Cond.methodLink RX8 50 yX9_lastMinute ∈ gtbl := g_ix gT_6 3 rfl
set_option maxRecDepth 100000 in
theorem gn_X9_lastMinute : Cond.instanceMethod yX9_lastMinute ∈ gtbl := g_ix gT_6 4 rfl
set_option maxRecDepth 100000 in
theorem gs_X9_lastMinute : Cond.selects (fR 9) yX9_lastMinute yX9_lastMinute ∈ gtbl := g_ix gT_6 5 rfl
set_option maxRecDepth 100000 in
theorem gp1_X9_lastMinute : (parseMethodDescriptor yX9_lastMinute.desc).map (fun d => d.parameters.length + 1) = some 3 := by decide +kernel
set_option maxRecDepth 100000 in
theorem gc_X9_lastMinute : Cond.code yX9_lastMinute cX9_lastMinute 5 (some .int) ∈ gtbl := g_ix gT_6 6 rfl
set_option maxRecDepth 100000 in
theorem gi_X9_lastMinute : Cond.initialized yX9_lastMinute.cls ∈ gtbl := g_ix gT_6 7 rfl
set_option maxRecDepth 100000 in
theorem gh_X9_lastMinute : yX9_lastMinute.cls ≠ "java/lang/invoke/MethodHandle" ∧ yX9_lastMinute.cls ≠ "java/lang/invoke/VarHandle" := ⟨by decide +kernel, by decide +kernel⟩
set_option maxRecDepth 100000 in
theorem gl_RX9_28 : Cond.methodLink RX9 28 yX9_restart ∈ gtbl := g_ix gT_6 8 rfl
set_option maxRecDepth 100000 in
theorem gn_X9_restart : Cond.instanceMethod yX9_restart ∈ gtbl := g_ix gT_6 9 rfl
set_option maxRecDepth 100000 in
theorem gs_X9_restart : Cond.selects (fR 9) yX9_restart yX9_restart ∈ gtbl := g_ix gT_6 10 rfl
set_option maxRecDepth 100000 in
theorem gp1_X9_restart : (parseMethodDescriptor yX9_restart.desc).map (fun d => d.parameters.length + 1) = some 1 := by decide +kernel
set_option maxRecDepth 100000 in
theorem gc_X9_restart : Cond.code yX9_restart cX9_restart 2 none ∈ gtbl := g_ix gT_6 11 rfl
set_option maxRecDepth 100000 in
theorem gi_X9_restart : Cond.initialized yX9_restart.cls ∈ gtbl := g_ix gT_6 12 rfl
set_option maxRecDepth 100000 in
theorem gh_X9_restart : yX9_restart.cls ≠ "java/lang/invoke/MethodHandle" ∧ yX9_restart.cls ≠ "java/lang/invoke/VarHandle" := ⟨by decide +kernel, by decide +kernel⟩
set_option maxRecDepth 100000 in
theorem gl_RX9_31 : Cond.methodLink RX9 31 yX9_work ∈ gtbl := g_ix gT_6 13 rfl
set_option maxRecDepth 100000 in
theorem gn_X9_work : Cond.instanceMethod yX9_work ∈ gtbl := g_ix gT_6 14 rfl
set_option maxRecDepth 100000 in
theorem gs_X9_work : Cond.selects (fR 9) yX9_work yX9_work ∈ gtbl := g_ix gT_6 15 rfl
set_option maxRecDepth 100000 in
theorem gp1_X9_work : (parseMethodDescriptor yX9_work.desc).map (fun d => d.parameters.length + 1) = some 4 := by decide +kernel
set_option maxRecDepth 100000 in
theorem gc_X9_work : Cond.code yX9_work cX9_work 8 none ∈ gtbl := g_ix gT_6 16 rfl
set_option maxRecDepth 100000 in
theorem gi_X9_work : Cond.initialized yX9_work.cls ∈ gtbl := g_ix gT_6 17 rfl
set_option maxRecDepth 100000 in
theorem gh_X9_work : yX9_work.cls ≠ "java/lang/invoke/MethodHandle" ∧ yX9_work.cls ≠ "java/lang/invoke/VarHandle" := ⟨by decide +kernel, by decide +kernel⟩
set_option maxRecDepth 100000 in
theorem gl_RX9_40 : Cond.methodLink RX9 40 yX9_notesCome ∈ gtbl := g_ix gT_6 18 rfl
set_option maxRecDepth 100000 in
theorem gn_X9_notesCome : Cond.instanceMethod yX9_notesCome ∈ gtbl := g_ix gT_6 19 rfl
set_option maxRecDepth 100000 in
theorem gs_X9_notesCome : Cond.selects (fR 9) yX9_notesCome yX9_notesCome ∈ gtbl := g_ix gT_6 20 rfl
set_option maxRecDepth 100000 in
theorem gp1_X9_notesCome : (parseMethodDescriptor yX9_notesCome.desc).map (fun d => d.parameters.length + 1) = some 5 := by decide +kernel
set_option maxRecDepth 100000 in
theorem gc_X9_notesCome : Cond.code yX9_notesCome cX9_notesCome 9 (some .int) ∈ gtbl := g_ix gT_6 21 rfl
set_option maxRecDepth 100000 in
theorem gi_X9_notesCome : Cond.initialized yX9_notesCome.cls ∈ gtbl := g_ix gT_6 22 rfl
set_option maxRecDepth 100000 in
theorem gh_X9_notesCome : yX9_notesCome.cls ≠ "java/lang/invoke/MethodHandle" ∧ yX9_notesCome.cls ≠ "java/lang/invoke/VarHandle" := ⟨by decide +kernel, by decide +kernel⟩
set_option maxRecDepth 100000 in
theorem gl_RX9_44 : Cond.methodLink RX9 44 yJ9_max_7cf53 ∈ gtbl := g_ix gT_6 23 rfl
set_option maxRecDepth 100000 in
theorem gl_RX9_50 : Cond.methodLink RX9 50 yX2_paceOf ∈ gtbl := g_ix gT_6 24 rfl
set_option maxRecDepth 100000 in
theorem gn_X2_paceOf : Cond.instanceMethod yX2_paceOf ∈ gtbl := g_ix gT_6 25 rfl
set_option maxRecDepth 100000 in
theorem gs_X2_paceOf : Cond.selects (fR 2) yX2_paceOf yX2_paceOf ∈ gtbl := g_ix gT_6 26 rfl
set_option maxRecDepth 100000 in
theorem gp1_X2_paceOf : (parseMethodDescriptor yX2_paceOf.desc).map (fun d => d.parameters.length + 1) = some 2 := by decide +kernel
set_option maxRecDepth 100000 in
theorem gc_X2_paceOf : Cond.code yX2_paceOf cX2_paceOf 2 (some .int) ∈ gtbl := g_ix gT_6 27 rfl
set_option maxRecDepth 100000 in
theorem gi_X2_paceOf : Cond.initialized yX2_paceOf.cls ∈ gtbl := g_ix gT_6 28 rfl
set_option maxRecDepth 100000 in
theorem gh_X2_paceOf : yX2_paceOf.cls ≠ "java/lang/invoke/MethodHandle" ∧ yX2_paceOf.cls ≠ "java/lang/invoke/VarHandle" := ⟨by decide +kernel, by decide +kernel⟩
set_option maxRecDepth 100000 in
theorem gl_RX9_56 : Cond.methodLink RX9 56 yX3_beside ∈ gtbl := g_ix gT_6 29 rfl
set_option maxRecDepth 100000 in
theorem gl_RX9_62 : Cond.methodLink RX9 62 yX9_ended ∈ gtbl := g_ix gT_6 30 rfl
set_option maxRecDepth 100000 in
theorem gn_X9_ended : Cond.instanceMethod yX9_ended ∈ gtbl := g_ix gT_6 31 rfl
set_option maxRecDepth 100000 in
theorem gs_X9_ended : Cond.selects (fR 9) yX9_ended yX9_ended ∈ gtbl := g_ix gT_6 32 rfl
set_option maxRecDepth 100000 in
theorem gp1_X9_ended : (parseMethodDescriptor yX9_ended.desc).map (fun d => d.parameters.length + 1) = some 3 := by decide +kernel
set_option maxRecDepth 100000 in
theorem gc_X9_ended : Cond.code yX9_ended cX9_ended 4 (some .int) ∈ gtbl := g_ix gT_6 33 rfl
set_option maxRecDepth 100000 in
theorem gi_X9_ended : Cond.initialized yX9_ended.cls ∈ gtbl := g_ix gT_6 34 rfl
set_option maxRecDepth 100000 in
theorem gh_X9_ended : yX9_ended.cls ≠ "java/lang/invoke/MethodHandle" ∧ yX9_ended.cls ≠ "java/lang/invoke/VarHandle" := ⟨by decide +kernel, by decide +kernel⟩
set_option maxRecDepth 100000 in
theorem gl_RX9_65 : Cond.methodLink RX9 65 yJ9_min_7cf53 ∈ gtbl := g_ix gT_6 35 rfl
set_option maxRecDepth 100000 in
theorem gl_RX9_68 : Cond.methodLink RX9 68 yX9_addLoads ∈ gtbl := g_ix gT_6 36 rfl
set_option maxRecDepth 100000 in
theorem gn_X9_addLoads : Cond.instanceMethod yX9_addLoads ∈ gtbl := g_ix gT_6 37 rfl
set_option maxRecDepth 100000 in
theorem gs_X9_addLoads : Cond.selects (fR 9) yX9_addLoads yX9_addLoads ∈ gtbl := g_ix gT_6 38 rfl
set_option maxRecDepth 100000 in
theorem gp1_X9_addLoads : (parseMethodDescriptor yX9_addLoads.desc).map (fun d => d.parameters.length + 1) = some 3 := by decide +kernel
set_option maxRecDepth 100000 in
theorem gc_X9_addLoads : Cond.code yX9_addLoads cX9_addLoads 5 none ∈ gtbl := g_ix gT_6 39 rfl
set_option maxRecDepth 100000 in
theorem gi_X9_addLoads : Cond.initialized yX9_addLoads.cls ∈ gtbl := g_ix gT_6 40 rfl
set_option maxRecDepth 100000 in
theorem gh_X9_addLoads : yX9_addLoads.cls ≠ "java/lang/invoke/MethodHandle" ∧ yX9_addLoads.cls ≠ "java/lang/invoke/VarHandle" := ⟨by decide +kernel, by decide +kernel⟩
set_option maxRecDepth 100000 in
theorem gl_RX9_72 : Cond.methodLink RX9 72 yX9_isTooSlow ∈ gtbl := g_ix gT_6 41 rfl
set_option maxRecDepth 100000 in
theorem gn_X9_isTooSlow : Cond.instanceMethod yX9_isTooSlow ∈ gtbl := g_ix gT_6 42 rfl
set_option maxRecDepth 100000 in
theorem gs_X9_isTooSlow : Cond.selects (fR 9) yX9_isTooSlow yX9_isTooSlow ∈ gtbl := g_ix gT_6 43 rfl
set_option maxRecDepth 100000 in
theorem gp1_X9_isTooSlow : (parseMethodDescriptor yX9_isTooSlow.desc).map (fun d => d.parameters.length + 1) = some 3 := by decide +kernel
set_option maxRecDepth 100000 in
theorem gc_X9_isTooSlow : Cond.code yX9_isTooSlow cX9_isTooSlow 4 (some .boolean) ∈ gtbl := g_ix gT_6 44 rfl
set_option maxRecDepth 100000 in
theorem gi_X9_isTooSlow : Cond.initialized yX9_isTooSlow.cls ∈ gtbl := g_ix gT_6 45 rfl
set_option maxRecDepth 100000 in
theorem gh_X9_isTooSlow : yX9_isTooSlow.cls ≠ "java/lang/invoke/MethodHandle" ∧ yX9_isTooSlow.cls ≠ "java/lang/invoke/VarHandle" := ⟨by decide +kernel, by decide +kernel⟩
set_option maxRecDepth 100000 in
theorem gl_RX9_76 : Cond.methodLink RX9 76 yX9_reach ∈ gtbl := g_ix gT_6 46 rfl
set_option maxRecDepth 100000 in
theorem gn_X9_reach : Cond.instanceMethod yX9_reach ∈ gtbl := g_ix gT_6 47 rfl
set_option maxRecDepth 100000 in
theorem gs_X9_reach : Cond.selects (fR 9) yX9_reach yX9_reach ∈ gtbl := g_ix gT_6 48 rfl
set_option maxRecDepth 100000 in
theorem gp1_X9_reach : (parseMethodDescriptor yX9_reach.desc).map (fun d => d.parameters.length + 1) = some 4 := by decide +kernel
set_option maxRecDepth 100000 in
theorem gc_X9_reach : Cond.code yX9_reach cX9_reach 5 none ∈ gtbl := g_ix gT_6 49 rfl
set_option maxRecDepth 100000 in
theorem gi_X9_reach : Cond.initialized yX9_reach.cls ∈ gtbl := g_ix gT_7 0 rfl
set_option maxRecDepth 100000 in
theorem gh_X9_reach : yX9_reach.cls ≠ "java/lang/invoke/MethodHandle" ∧ yX9_reach.cls ≠ "java/lang/invoke/VarHandle" := ⟨by decide +kernel, by decide +kernel⟩
set_option maxRecDepth 100000 in
theorem gl_RX9_79 : Cond.methodLink RX9 79 yX9_lastMinute ∈ gtbl := g_ix gT_7 1 rfl
set_option maxRecDepth 100000 in
theorem gl_RX10_9 : Cond.methodLink RX10 9 yX3_init ∈ gtbl := g_ix gT_7 2 rfl
set_option maxRecDepth 100000 in
theorem gn_X3_init : Cond.instanceMethod yX3_init ∈ gtbl := g_ix gT_7 3 rfl
set_option maxRecDepth 100000 in
theorem gp1_X3_init : (parseMethodDescriptor yX3_init.desc).map (fun d => d.parameters.length + 1) = some 3 := by decide +kernel
set_option maxRecDepth 100000 in
theorem gc_X3_init : Cond.code yX3_init cX3_init 3 none ∈ gtbl := g_ix gT_7 4 rfl
set_option maxRecDepth 100000 in
theorem gi_X3_init : Cond.initialized yX3_init.cls ∈ gtbl := g_ix gT_7 5 rfl
set_option maxRecDepth 100000 in
theorem gh_X3_init : yX3_init.cls ≠ "java/lang/invoke/MethodHandle" ∧ yX3_init.cls ≠ "java/lang/invoke/VarHandle" := ⟨by decide +kernel, by decide +kernel⟩
set_option maxRecDepth 100000 in
theorem gn_X6_init : Cond.instanceMethod yX6_init ∈ gtbl := g_ix gT_7 6 rfl
set_option maxRecDepth 100000 in
theorem gp1_X6_init : (parseMethodDescriptor yX6_init.desc).map (fun d => d.parameters.length + 1) = some 1 := by decide +kernel
set_option maxRecDepth 100000 in
theorem gc_X6_init : Cond.code yX6_init cX6_init 1 none ∈ gtbl := g_ix gT_7 7 rfl
set_option maxRecDepth 100000 in
theorem gi_X6_init : Cond.initialized yX6_init.cls ∈ gtbl := g_ix gT_7 8 rfl
set_option maxRecDepth 100000 in
theorem gh_X6_init : yX6_init.cls ≠ "java/lang/invoke/MethodHandle" ∧ yX6_init.cls ≠ "java/lang/invoke/VarHandle" := ⟨by decide +kernel, by decide +kernel⟩
set_option maxRecDepth 100000 in
theorem gl_RX10_30 : Cond.methodLink RX10 30 yX7_init ∈ gtbl := g_ix gT_7 9 rfl
set_option maxRecDepth 100000 in
theorem gn_X7_init : Cond.instanceMethod yX7_init ∈ gtbl := g_ix gT_7 10 rfl
set_option maxRecDepth 100000 in
theorem gp1_X7_init : (parseMethodDescriptor yX7_init.desc).map (fun d => d.parameters.length + 1) = some 1 := by decide +kernel
set_option maxRecDepth 100000 in
theorem gc_X7_init : Cond.code yX7_init cX7_init 1 none ∈ gtbl := g_ix gT_7 11 rfl
set_option maxRecDepth 100000 in
theorem gi_X7_init : Cond.initialized yX7_init.cls ∈ gtbl := g_ix gT_7 12 rfl
set_option maxRecDepth 100000 in
theorem gh_X7_init : yX7_init.cls ≠ "java/lang/invoke/MethodHandle" ∧ yX7_init.cls ≠ "java/lang/invoke/VarHandle" := ⟨by decide +kernel, by decide +kernel⟩
set_option maxRecDepth 100000 in
theorem gl_RX10_41 : Cond.methodLink RX10 41 yX0_init ∈ gtbl := g_ix gT_7 13 rfl
set_option maxRecDepth 100000 in
theorem gn_X0_init : Cond.instanceMethod yX0_init ∈ gtbl := g_ix gT_7 14 rfl
set_option maxRecDepth 100000 in
theorem gp1_X0_init : (parseMethodDescriptor yX0_init.desc).map (fun d => d.parameters.length + 1) = some 3 := by decide +kernel
set_option maxRecDepth 100000 in
theorem gc_X0_init : Cond.code yX0_init cX0_init 3 none ∈ gtbl := g_ix gT_7 15 rfl
set_option maxRecDepth 100000 in
theorem gi_X0_init : Cond.initialized yX0_init.cls ∈ gtbl := g_ix gT_7 16 rfl
set_option maxRecDepth 100000 in
theorem gh_X0_init : yX0_init.cls ≠ "java/lang/invoke/MethodHandle" ∧ yX0_init.cls ≠ "java/lang/invoke/VarHandle" := ⟨by decide +kernel, by decide +kernel⟩
set_option maxRecDepth 100000 in
theorem gn_X4_init : Cond.instanceMethod yX4_init ∈ gtbl := g_ix gT_7 17 rfl
set_option maxRecDepth 100000 in
theorem gp1_X4_init : (parseMethodDescriptor yX4_init.desc).map (fun d => d.parameters.length + 1) = some 1 := by decide +kernel
set_option maxRecDepth 100000 in
theorem gc_X4_init : Cond.code yX4_init cX4_init 1 none ∈ gtbl := g_ix gT_7 18 rfl
set_option maxRecDepth 100000 in
theorem gi_X4_init : Cond.initialized yX4_init.cls ∈ gtbl := g_ix gT_7 19 rfl
set_option maxRecDepth 100000 in
theorem gh_X4_init : yX4_init.cls ≠ "java/lang/invoke/MethodHandle" ∧ yX4_init.cls ≠ "java/lang/invoke/VarHandle" := ⟨by decide +kernel, by decide +kernel⟩
set_option maxRecDepth 100000 in
theorem gl_RX10_66 : Cond.methodLink RX10 66 yX1_init ∈ gtbl := g_ix gT_7 20 rfl
set_option maxRecDepth 100000 in
theorem gn_X1_init : Cond.instanceMethod yX1_init ∈ gtbl := g_ix gT_7 21 rfl
set_option maxRecDepth 100000 in
theorem gp1_X1_init : (parseMethodDescriptor yX1_init.desc).map (fun d => d.parameters.length + 1) = some 1 := by decide +kernel
set_option maxRecDepth 100000 in
theorem gc_X1_init : Cond.code yX1_init cX1_init 1 none ∈ gtbl := g_ix gT_7 22 rfl
set_option maxRecDepth 100000 in
theorem gi_X1_init : Cond.initialized yX1_init.cls ∈ gtbl := g_ix gT_7 23 rfl
set_option maxRecDepth 100000 in
theorem gh_X1_init : yX1_init.cls ≠ "java/lang/invoke/MethodHandle" ∧ yX1_init.cls ≠ "java/lang/invoke/VarHandle" := ⟨by decide +kernel, by decide +kernel⟩
set_option maxRecDepth 100000 in
theorem gl_RX10_73 : Cond.methodLink RX10 73 yX2_init ∈ gtbl := g_ix gT_7 24 rfl
set_option maxRecDepth 100000 in
theorem gn_X2_init : Cond.instanceMethod yX2_init ∈ gtbl := g_ix gT_7 25 rfl
set_option maxRecDepth 100000 in
theorem gp1_X2_init : (parseMethodDescriptor yX2_init.desc).map (fun d => d.parameters.length + 1) = some 1 := by decide +kernel
set_option maxRecDepth 100000 in
theorem gc_X2_init : Cond.code yX2_init cX2_init 2 none ∈ gtbl := g_ix gT_7 26 rfl
set_option maxRecDepth 100000 in
theorem gi_X2_init : Cond.initialized yX2_init.cls ∈ gtbl := g_ix gT_7 27 rfl
set_option maxRecDepth 100000 in
theorem gh_X2_init : yX2_init.cls ≠ "java/lang/invoke/MethodHandle" ∧ yX2_init.cls ≠ "java/lang/invoke/VarHandle" := ⟨by decide +kernel, by decide +kernel⟩
set_option maxRecDepth 100000 in
theorem gn_X8_init : Cond.instanceMethod yX8_init ∈ gtbl := g_ix gT_7 28 rfl
set_option maxRecDepth 100000 in
theorem gp1_X8_init : (parseMethodDescriptor yX8_init.desc).map (fun d => d.parameters.length + 1) = some 1 := by decide +kernel
set_option maxRecDepth 100000 in
theorem gc_X8_init : Cond.code yX8_init cX8_init 1 none ∈ gtbl := g_ix gT_7 29 rfl
set_option maxRecDepth 100000 in
theorem gi_X8_init : Cond.initialized yX8_init.cls ∈ gtbl := g_ix gT_7 30 rfl
set_option maxRecDepth 100000 in
theorem gh_X8_init : yX8_init.cls ≠ "java/lang/invoke/MethodHandle" ∧ yX8_init.cls ≠ "java/lang/invoke/VarHandle" := ⟨by decide +kernel, by decide +kernel⟩
set_option maxRecDepth 100000 in
theorem gl_RX10_96 : Cond.methodLink RX10 96 yX3_shape ∈ gtbl := g_ix gT_7 31 rfl
set_option maxRecDepth 100000 in
theorem gl_RX10_100 : Cond.methodLink RX10 100 yX7_clearFirsts ∈ gtbl := g_ix gT_7 32 rfl
set_option maxRecDepth 100000 in
theorem gl_RX10_109 : Cond.methodLink RX10 109 yX1_clearTold ∈ gtbl := g_ix gT_7 33 rfl
set_option maxRecDepth 100000 in
theorem gl_RX10_112 : Cond.methodLink RX10 112 yX9_giveAllToFirst ∈ gtbl := g_ix gT_7 34 rfl
set_option maxRecDepth 100000 in
theorem gn_X9_giveAllToFirst : Cond.instanceMethod yX9_giveAllToFirst ∈ gtbl := g_ix gT_7 35 rfl
set_option maxRecDepth 100000 in
theorem gs_X9_giveAllToFirst : Cond.selects (fR 9) yX9_giveAllToFirst yX9_giveAllToFirst ∈ gtbl := g_ix gT_7 36 rfl
set_option maxRecDepth 100000 in
theorem gp1_X9_giveAllToFirst : (parseMethodDescriptor yX9_giveAllToFirst.desc).map (fun d => d.parameters.length + 1) = some 1 := by decide +kernel
set_option maxRecDepth 100000 in
theorem gc_X9_giveAllToFirst : Cond.code yX9_giveAllToFirst cX9_giveAllToFirst 2 none ∈ gtbl := g_ix gT_7 37 rfl
set_option maxRecDepth 100000 in
theorem gi_X9_giveAllToFirst : Cond.initialized yX9_giveAllToFirst.cls ∈ gtbl := g_ix gT_7 38 rfl
set_option maxRecDepth 100000 in
theorem gh_X9_giveAllToFirst : yX9_giveAllToFirst.cls ≠ "java/lang/invoke/MethodHandle" ∧ yX9_giveAllToFirst.cls ≠ "java/lang/invoke/VarHandle" := ⟨by decide +kernel, by decide +kernel⟩
set_option maxRecDepth 100000 in
theorem gl_RX10_115 : Cond.methodLink RX10 115 yX10_forgetNumbers ∈ gtbl := g_ix gT_7 39 rfl
set_option maxRecDepth 100000 in
theorem gn_X10_forgetNumbers : Cond.instanceMethod yX10_forgetNumbers ∈ gtbl := g_ix gT_7 40 rfl
set_option maxRecDepth 100000 in
theorem gs_X10_forgetNumbers : Cond.selects (fR 10) yX10_forgetNumbers yX10_forgetNumbers ∈ gtbl := g_ix gT_7 41 rfl
set_option maxRecDepth 100000 in
theorem gp1_X10_forgetNumbers : (parseMethodDescriptor yX10_forgetNumbers.desc).map (fun d => d.parameters.length + 1) = some 1 := by decide +kernel
set_option maxRecDepth 100000 in
theorem gc_X10_forgetNumbers : Cond.code yX10_forgetNumbers cX10_forgetNumbers 1 none ∈ gtbl := g_ix gT_7 42 rfl
set_option maxRecDepth 100000 in
theorem gi_X10_forgetNumbers : Cond.initialized yX10_forgetNumbers.cls ∈ gtbl := g_ix gT_7 43 rfl
set_option maxRecDepth 100000 in
theorem gh_X10_forgetNumbers : yX10_forgetNumbers.cls ≠ "java/lang/invoke/MethodHandle" ∧ yX10_forgetNumbers.cls ≠ "java/lang/invoke/VarHandle" := ⟨by decide +kernel, by decide +kernel⟩
set_option maxRecDepth 100000 in
theorem gl_RX10_118 : Cond.methodLink RX10 118 yX10_forgetTimes ∈ gtbl := g_ix gT_7 44 rfl
set_option maxRecDepth 100000 in
theorem gn_X10_forgetTimes : Cond.instanceMethod yX10_forgetTimes ∈ gtbl := g_ix gT_7 45 rfl
set_option maxRecDepth 100000 in
theorem gs_X10_forgetTimes : Cond.selects (fR 10) yX10_forgetTimes yX10_forgetTimes ∈ gtbl := g_ix gT_7 46 rfl
set_option maxRecDepth 100000 in
theorem gp1_X10_forgetTimes : (parseMethodDescriptor yX10_forgetTimes.desc).map (fun d => d.parameters.length + 1) = some 1 := by decide +kernel
set_option maxRecDepth 100000 in
theorem gc_X10_forgetTimes : Cond.code yX10_forgetTimes cX10_forgetTimes 1 none ∈ gtbl := g_ix gT_7 47 rfl
set_option maxRecDepth 100000 in
theorem gi_X10_forgetTimes : Cond.initialized yX10_forgetTimes.cls ∈ gtbl := g_ix gT_7 48 rfl
set_option maxRecDepth 100000 in
theorem gh_X10_forgetTimes : yX10_forgetTimes.cls ≠ "java/lang/invoke/MethodHandle" ∧ yX10_forgetTimes.cls ≠ "java/lang/invoke/VarHandle" := ⟨by decide +kernel, by decide +kernel⟩
set_option maxRecDepth 100000 in
theorem gl_RX10_124 : Cond.methodLink RX10 124 yX10_reshape ∈ gtbl := g_ix gT_7 49 rfl
set_option maxRecDepth 100000 in
theorem gn_X10_reshape : Cond.instanceMethod yX10_reshape ∈ gtbl := g_ix gT_8 0 rfl
set_option maxRecDepth 100000 in
theorem gs_X10_reshape : Cond.selects (fR 10) yX10_reshape yX10_reshape ∈ gtbl := g_ix gT_8 1 rfl
set_option maxRecDepth 100000 in
theorem gp1_X10_reshape : (parseMethodDescriptor yX10_reshape.desc).map (fun d => d.parameters.length + 1) = some 1 := by decide +kernel
set_option maxRecDepth 100000 in
theorem gc_X10_reshape : Cond.code yX10_reshape cX10_reshape 1 none ∈ gtbl := g_ix gT_8 2 rfl
set_option maxRecDepth 100000 in
theorem gi_X10_reshape : Cond.initialized yX10_reshape.cls ∈ gtbl := g_ix gT_8 3 rfl
set_option maxRecDepth 100000 in
theorem gh_X10_reshape : yX10_reshape.cls ≠ "java/lang/invoke/MethodHandle" ∧ yX10_reshape.cls ≠ "java/lang/invoke/VarHandle" := ⟨by decide +kernel, by decide +kernel⟩
set_option maxRecDepth 100000 in
theorem gl_RX10_130 : Cond.methodLink RX10 130 yX10_isLetter ∈ gtbl := g_ix gT_8 4 rfl
set_option maxRecDepth 100000 in
theorem gl_RX10_134 : Cond.methodLink RX10 134 yX10_isTold ∈ gtbl := g_ix gT_8 5 rfl
set_option maxRecDepth 100000 in
theorem gt_X10_isTold : Cond.static yX10_isTold ∈ gtbl := g_ix gT_8 6 rfl
set_option maxRecDepth 100000 in
theorem gp0_X10_isTold : (parseMethodDescriptor yX10_isTold.desc).map (fun d => d.parameters.length) = some 1 := by decide +kernel
set_option maxRecDepth 100000 in
theorem gc_X10_isTold : Cond.code yX10_isTold cX10_isTold 1 (some .boolean) ∈ gtbl := g_ix gT_8 7 rfl
set_option maxRecDepth 100000 in
theorem gi_X10_isTold : Cond.initialized yX10_isTold.cls ∈ gtbl := g_ix gT_8 8 rfl
set_option maxRecDepth 100000 in
theorem gh_X10_isTold : yX10_isTold.cls ≠ "java/lang/invoke/MethodHandle" ∧ yX10_isTold.cls ≠ "java/lang/invoke/VarHandle" := ⟨by decide +kernel, by decide +kernel⟩
set_option maxRecDepth 100000 in
theorem gl_RX10_145 : Cond.methodLink RX10 145 yX6_append ∈ gtbl := g_ix gT_8 9 rfl
set_option maxRecDepth 100000 in
theorem gn_X6_append : Cond.instanceMethod yX6_append ∈ gtbl := g_ix gT_8 10 rfl
set_option maxRecDepth 100000 in
theorem gs_X6_append : Cond.selects (fR 6) yX6_append yX6_append ∈ gtbl := g_ix gT_8 11 rfl
set_option maxRecDepth 100000 in
theorem gp1_X6_append : (parseMethodDescriptor yX6_append.desc).map (fun d => d.parameters.length + 1) = some 2 := by decide +kernel
set_option maxRecDepth 100000 in
theorem gc_X6_append : Cond.code yX6_append cX6_append 2 none ∈ gtbl := g_ix gT_8 12 rfl
set_option maxRecDepth 100000 in
theorem gi_X6_append : Cond.initialized yX6_append.cls ∈ gtbl := g_ix gT_8 13 rfl
set_option maxRecDepth 100000 in
theorem gh_X6_append : yX6_append.cls ≠ "java/lang/invoke/MethodHandle" ∧ yX6_append.cls ≠ "java/lang/invoke/VarHandle" := ⟨by decide +kernel, by decide +kernel⟩
set_option maxRecDepth 100000 in
theorem gl_RX10_149 : Cond.methodLink RX10 149 yX6_read ∈ gtbl := g_ix gT_8 14 rfl
set_option maxRecDepth 100000 in
theorem gn_X6_read : Cond.instanceMethod yX6_read ∈ gtbl := g_ix gT_8 15 rfl
set_option maxRecDepth 100000 in
theorem gs_X6_read : Cond.selects (fR 6) yX6_read yX6_read ∈ gtbl := g_ix gT_8 16 rfl
set_option maxRecDepth 100000 in
theorem gp1_X6_read : (parseMethodDescriptor yX6_read.desc).map (fun d => d.parameters.length + 1) = some 1 := by decide +kernel
set_option maxRecDepth 100000 in
theorem gc_X6_read : Cond.code yX6_read cX6_read 2 (some .int) ∈ gtbl := g_ix gT_8 17 rfl
set_option maxRecDepth 100000 in
theorem gi_X6_read : Cond.initialized yX6_read.cls ∈ gtbl := g_ix gT_8 18 rfl
set_option maxRecDepth 100000 in
theorem gh_X6_read : yX6_read.cls ≠ "java/lang/invoke/MethodHandle" ∧ yX6_read.cls ≠ "java/lang/invoke/VarHandle" := ⟨by decide +kernel, by decide +kernel⟩
set_option maxRecDepth 100000 in
theorem gl_RX10_158 : Cond.methodLink RX10 158 yX5_takeAll ∈ gtbl := g_ix gT_8 19 rfl
set_option maxRecDepth 100000 in
theorem gl_RX10_180 : Cond.methodLink RX10 180 yX5_hasProduct ∈ gtbl := g_ix gT_8 20 rfl
set_option maxRecDepth 100000 in
theorem gl_RX10_183 : Cond.methodLink RX10 183 yX10_isCell ∈ gtbl := g_ix gT_8 21 rfl
set_option maxRecDepth 100000 in
theorem gn_X10_isCell : Cond.instanceMethod yX10_isCell ∈ gtbl := g_ix gT_8 22 rfl
set_option maxRecDepth 100000 in
theorem gs_X10_isCell : Cond.selects (fR 10) yX10_isCell yX10_isCell ∈ gtbl := g_ix gT_8 23 rfl
set_option maxRecDepth 100000 in
theorem gp1_X10_isCell : (parseMethodDescriptor yX10_isCell.desc).map (fun d => d.parameters.length + 1) = some 2 := by decide +kernel
set_option maxRecDepth 100000 in
theorem gc_X10_isCell : Cond.code yX10_isCell cX10_isCell 2 (some .boolean) ∈ gtbl := g_ix gT_8 24 rfl
set_option maxRecDepth 100000 in
theorem gi_X10_isCell : Cond.initialized yX10_isCell.cls ∈ gtbl := g_ix gT_8 25 rfl
set_option maxRecDepth 100000 in
theorem gh_X10_isCell : yX10_isCell.cls ≠ "java/lang/invoke/MethodHandle" ∧ yX10_isCell.cls ≠ "java/lang/invoke/VarHandle" := ⟨by decide +kernel, by decide +kernel⟩
set_option maxRecDepth 100000 in
theorem gl_RX10_190 : Cond.methodLink RX10 190 yX10_isStep ∈ gtbl := g_ix gT_8 26 rfl
set_option maxRecDepth 100000 in
theorem gt_X10_isStep : Cond.static yX10_isStep ∈ gtbl := g_ix gT_8 27 rfl
set_option maxRecDepth 100000 in
theorem gp0_X10_isStep : (parseMethodDescriptor yX10_isStep.desc).map (fun d => d.parameters.length) = some 1 := by decide +kernel
set_option maxRecDepth 100000 in
theorem gc_X10_isStep : Cond.code yX10_isStep cX10_isStep 1 (some .boolean) ∈ gtbl := g_ix gT_8 28 rfl
set_option maxRecDepth 100000 in
theorem gi_X10_isStep : Cond.initialized yX10_isStep.cls ∈ gtbl := g_ix gT_8 29 rfl
set_option maxRecDepth 100000 in
theorem gh_X10_isStep : yX10_isStep.cls ≠ "java/lang/invoke/MethodHandle" ∧ yX10_isStep.cls ≠ "java/lang/invoke/VarHandle" := ⟨by decide +kernel, by decide +kernel⟩
set_option maxRecDepth 100000 in
theorem gl_RX10_194 : Cond.methodLink RX10 194 yX10_reckoned ∈ gtbl := g_ix gT_8 30 rfl
set_option maxRecDepth 100000 in
theorem gn_X10_reckoned : Cond.instanceMethod yX10_reckoned ∈ gtbl := g_ix gT_8 31 rfl
set_option maxRecDepth 100000 in
theorem gs_X10_reckoned : Cond.selects (fR 10) yX10_reckoned yX10_reckoned ∈ gtbl := g_ix gT_8 32 rfl
set_option maxRecDepth 100000 in
theorem gp1_X10_reckoned : (parseMethodDescriptor yX10_reckoned.desc).map (fun d => d.parameters.length + 1) = some 3 := by decide +kernel
set_option maxRecDepth 100000 in
theorem gc_X10_reckoned : Cond.code yX10_reckoned cX10_reckoned 4 (some (.object "ForecastHall$Board")) ∈ gtbl := g_ix gT_8 33 rfl
set_option maxRecDepth 100000 in
theorem gi_X10_reckoned : Cond.initialized yX10_reckoned.cls ∈ gtbl := g_ix gT_8 34 rfl
set_option maxRecDepth 100000 in
theorem gh_X10_reckoned : yX10_reckoned.cls ≠ "java/lang/invoke/MethodHandle" ∧ yX10_reckoned.cls ≠ "java/lang/invoke/VarHandle" := ⟨by decide +kernel, by decide +kernel⟩
set_option maxRecDepth 100000 in
theorem gl_RX10_198 : Cond.methodLink RX10 198 yX0_number ∈ gtbl := g_ix gT_8 35 rfl
set_option maxRecDepth 100000 in
theorem gl_RX10_202 : Cond.methodLink RX10 202 yX4_reach ∈ gtbl := g_ix gT_8 36 rfl
set_option maxRecDepth 100000 in
theorem gn_X4_reach : Cond.instanceMethod yX4_reach ∈ gtbl := g_ix gT_8 37 rfl
set_option maxRecDepth 100000 in
theorem gs_X4_reach : Cond.selects (fR 4) yX4_reach yX4_reach ∈ gtbl := g_ix gT_8 38 rfl
set_option maxRecDepth 100000 in
theorem gp1_X4_reach : (parseMethodDescriptor yX4_reach.desc).map (fun d => d.parameters.length + 1) = some 4 := by decide +kernel
set_option maxRecDepth 100000 in
theorem gc_X4_reach : Cond.code yX4_reach cX4_reach 7 none ∈ gtbl := g_ix gT_8 39 rfl
set_option maxRecDepth 100000 in
theorem gi_X4_reach : Cond.initialized yX4_reach.cls ∈ gtbl := g_ix gT_8 40 rfl
set_option maxRecDepth 100000 in
theorem gh_X4_reach : yX4_reach.cls ≠ "java/lang/invoke/MethodHandle" ∧ yX4_reach.cls ≠ "java/lang/invoke/VarHandle" := ⟨by decide +kernel, by decide +kernel⟩
set_option maxRecDepth 100000 in
theorem gl_RX10_206 : Cond.methodLink RX10 206 yX4_has ∈ gtbl := g_ix gT_8 41 rfl
set_option maxRecDepth 100000 in
theorem gl_RX10_215 : Cond.methodLink RX10 215 yX0_rowSum ∈ gtbl := g_ix gT_8 42 rfl
set_option maxRecDepth 100000 in
theorem gl_RX10_219 : Cond.methodLink RX10 219 yX10_isLaterStep ∈ gtbl := g_ix gT_8 43 rfl
set_option maxRecDepth 100000 in
theorem gt_X10_isLaterStep : Cond.static yX10_isLaterStep ∈ gtbl := g_ix gT_8 44 rfl
set_option maxRecDepth 100000 in
theorem gp0_X10_isLaterStep : (parseMethodDescriptor yX10_isLaterStep.desc).map (fun d => d.parameters.length) = some 1 := by decide +kernel
set_option maxRecDepth 100000 in
theorem gc_X10_isLaterStep : Cond.code yX10_isLaterStep cX10_isLaterStep 1 (some .boolean) ∈ gtbl := g_ix gT_8 45 rfl
set_option maxRecDepth 100000 in
theorem gi_X10_isLaterStep : Cond.initialized yX10_isLaterStep.cls ∈ gtbl := g_ix gT_8 46 rfl
set_option maxRecDepth 100000 in
theorem gh_X10_isLaterStep : yX10_isLaterStep.cls ≠ "java/lang/invoke/MethodHandle" ∧ yX10_isLaterStep.cls ≠ "java/lang/invoke/VarHandle" := ⟨by decide +kernel, by decide +kernel⟩
set_option maxRecDepth 100000 in
theorem gl_RX10_222 : Cond.methodLink RX10 222 yX7_addSlip ∈ gtbl := g_ix gT_8 47 rfl
set_option maxRecDepth 100000 in
theorem gn_X7_addSlip : Cond.instanceMethod yX7_addSlip ∈ gtbl := g_ix gT_8 48 rfl
set_option maxRecDepth 100000 in
theorem gs_X7_addSlip : Cond.selects (fR 7) yX7_addSlip yX7_addSlip ∈ gtbl := g_ix gT_8 49 rfl
set_option maxRecDepth 100000 in
theorem gp1_X7_addSlip : (parseMethodDescriptor yX7_addSlip.desc).map (fun d => d.parameters.length + 1) = some 5 := by decide +kernel
set_option maxRecDepth 100000 in
theorem gc_X7_addSlip : Cond.code yX7_addSlip cX7_addSlip 5 none ∈ gtbl := g_ix gT_9 0 rfl
set_option maxRecDepth 100000 in
theorem gi_X7_addSlip : Cond.initialized yX7_addSlip.cls ∈ gtbl := g_ix gT_9 1 rfl
set_option maxRecDepth 100000 in
theorem gh_X7_addSlip : yX7_addSlip.cls ≠ "java/lang/invoke/MethodHandle" ∧ yX7_addSlip.cls ≠ "java/lang/invoke/VarHandle" := ⟨by decide +kernel, by decide +kernel⟩
set_option maxRecDepth 100000 in
theorem gl_RX10_226 : Cond.methodLink RX10 226 yX10_forgetSlips ∈ gtbl := g_ix gT_9 2 rfl
set_option maxRecDepth 100000 in
theorem gn_X10_forgetSlips : Cond.instanceMethod yX10_forgetSlips ∈ gtbl := g_ix gT_9 3 rfl
set_option maxRecDepth 100000 in
theorem gs_X10_forgetSlips : Cond.selects (fR 10) yX10_forgetSlips yX10_forgetSlips ∈ gtbl := g_ix gT_9 4 rfl
set_option maxRecDepth 100000 in
theorem gp1_X10_forgetSlips : (parseMethodDescriptor yX10_forgetSlips.desc).map (fun d => d.parameters.length + 1) = some 1 := by decide +kernel
set_option maxRecDepth 100000 in
theorem gc_X10_forgetSlips : Cond.code yX10_forgetSlips cX10_forgetSlips 1 none ∈ gtbl := g_ix gT_9 5 rfl
set_option maxRecDepth 100000 in
theorem gi_X10_forgetSlips : Cond.initialized yX10_forgetSlips.cls ∈ gtbl := g_ix gT_9 6 rfl
set_option maxRecDepth 100000 in
theorem gh_X10_forgetSlips : yX10_forgetSlips.cls ≠ "java/lang/invoke/MethodHandle" ∧ yX10_forgetSlips.cls ≠ "java/lang/invoke/VarHandle" := ⟨by decide +kernel, by decide +kernel⟩
set_option maxRecDepth 100000 in
theorem gl_RX10_229 : Cond.methodLink RX10 229 yX10_reckonWithout ∈ gtbl := g_ix gT_9 7 rfl
set_option maxRecDepth 100000 in
theorem gn_X10_reckonWithout : Cond.instanceMethod yX10_reckonWithout ∈ gtbl := g_ix gT_9 8 rfl
set_option maxRecDepth 100000 in
theorem gs_X10_reckonWithout : Cond.selects (fR 10) yX10_reckonWithout yX10_reckonWithout ∈ gtbl := g_ix gT_9 9 rfl
set_option maxRecDepth 100000 in
theorem gp1_X10_reckonWithout : (parseMethodDescriptor yX10_reckonWithout.desc).map (fun d => d.parameters.length + 1) = some 3 := by decide +kernel
set_option maxRecDepth 100000 in
theorem gc_X10_reckonWithout : Cond.code yX10_reckonWithout cX10_reckonWithout 3 none ∈ gtbl := g_ix gT_9 10 rfl
set_option maxRecDepth 100000 in
theorem gi_X10_reckonWithout : Cond.initialized yX10_reckonWithout.cls ∈ gtbl := g_ix gT_9 11 rfl
set_option maxRecDepth 100000 in
theorem gh_X10_reckonWithout : yX10_reckonWithout.cls ≠ "java/lang/invoke/MethodHandle" ∧ yX10_reckonWithout.cls ≠ "java/lang/invoke/VarHandle" := ⟨by decide +kernel, by decide +kernel⟩
set_option maxRecDepth 100000 in
theorem gl_RX10_232 : Cond.methodLink RX10 232 yX10_otherwiseUpTo ∈ gtbl := g_ix gT_9 12 rfl
set_option maxRecDepth 100000 in
theorem gn_X10_otherwiseUpTo : Cond.instanceMethod yX10_otherwiseUpTo ∈ gtbl := g_ix gT_9 13 rfl
set_option maxRecDepth 100000 in
theorem gs_X10_otherwiseUpTo : Cond.selects (fR 10) yX10_otherwiseUpTo yX10_otherwiseUpTo ∈ gtbl := g_ix gT_9 14 rfl
set_option maxRecDepth 100000 in
theorem gp1_X10_otherwiseUpTo : (parseMethodDescriptor yX10_otherwiseUpTo.desc).map (fun d => d.parameters.length + 1) = some 2 := by decide +kernel
set_option maxRecDepth 100000 in
theorem gc_X10_otherwiseUpTo : Cond.code yX10_otherwiseUpTo cX10_otherwiseUpTo 4 (some .int) ∈ gtbl := g_ix gT_9 15 rfl
set_option maxRecDepth 100000 in
theorem gi_X10_otherwiseUpTo : Cond.initialized yX10_otherwiseUpTo.cls ∈ gtbl := g_ix gT_9 16 rfl
set_option maxRecDepth 100000 in
theorem gh_X10_otherwiseUpTo : yX10_otherwiseUpTo.cls ≠ "java/lang/invoke/MethodHandle" ∧ yX10_otherwiseUpTo.cls ≠ "java/lang/invoke/VarHandle" := ⟨by decide +kernel, by decide +kernel⟩
set_option maxRecDepth 100000 in
theorem gl_RX10_236 : Cond.methodLink RX10 236 yX10_lastOtherwise ∈ gtbl := g_ix gT_9 17 rfl
set_option maxRecDepth 100000 in
theorem gn_X10_lastOtherwise : Cond.instanceMethod yX10_lastOtherwise ∈ gtbl := g_ix gT_9 18 rfl
set_option maxRecDepth 100000 in
theorem gs_X10_lastOtherwise : Cond.selects (fR 10) yX10_lastOtherwise yX10_lastOtherwise ∈ gtbl := g_ix gT_9 19 rfl
set_option maxRecDepth 100000 in
theorem gp1_X10_lastOtherwise : (parseMethodDescriptor yX10_lastOtherwise.desc).map (fun d => d.parameters.length + 1) = some 2 := by decide +kernel
set_option maxRecDepth 100000 in
theorem gc_X10_lastOtherwise : Cond.code yX10_lastOtherwise cX10_lastOtherwise 3 (some .int) ∈ gtbl := g_ix gT_9 20 rfl
set_option maxRecDepth 100000 in
theorem gi_X10_lastOtherwise : Cond.initialized yX10_lastOtherwise.cls ∈ gtbl := g_ix gT_9 21 rfl
set_option maxRecDepth 100000 in
theorem gh_X10_lastOtherwise : yX10_lastOtherwise.cls ≠ "java/lang/invoke/MethodHandle" ∧ yX10_lastOtherwise.cls ≠ "java/lang/invoke/VarHandle" := ⟨by decide +kernel, by decide +kernel⟩
set_option maxRecDepth 100000 in
theorem gl_RX10_239 : Cond.methodLink RX10 239 yX10_otherwiseIn ∈ gtbl := g_ix gT_9 22 rfl
set_option maxRecDepth 100000 in
theorem gn_X10_otherwiseIn : Cond.instanceMethod yX10_otherwiseIn ∈ gtbl := g_ix gT_9 23 rfl
set_option maxRecDepth 100000 in
theorem gs_X10_otherwiseIn : Cond.selects (fR 10) yX10_otherwiseIn yX10_otherwiseIn ∈ gtbl := g_ix gT_9 24 rfl
set_option maxRecDepth 100000 in
theorem gp1_X10_otherwiseIn : (parseMethodDescriptor yX10_otherwiseIn.desc).map (fun d => d.parameters.length + 1) = some 2 := by decide +kernel
set_option maxRecDepth 100000 in
theorem gc_X10_otherwiseIn : Cond.code yX10_otherwiseIn cX10_otherwiseIn 5 (some .int) ∈ gtbl := g_ix gT_9 25 rfl
set_option maxRecDepth 100000 in
theorem gi_X10_otherwiseIn : Cond.initialized yX10_otherwiseIn.cls ∈ gtbl := g_ix gT_9 26 rfl
set_option maxRecDepth 100000 in
theorem gh_X10_otherwiseIn : yX10_otherwiseIn.cls ≠ "java/lang/invoke/MethodHandle" ∧ yX10_otherwiseIn.cls ≠ "java/lang/invoke/VarHandle" := ⟨by decide +kernel, by decide +kernel⟩
set_option maxRecDepth 100000 in
theorem gl_RX10_242 : Cond.methodLink RX10 242 yX5_keepsSum ∈ gtbl := g_ix gT_9 27 rfl
set_option maxRecDepth 100000 in
theorem gn_X5_keepsSum : Cond.instanceMethod yX5_keepsSum ∈ gtbl := g_ix gT_9 28 rfl
set_option maxRecDepth 100000 in
theorem gs_X5_keepsSum : Cond.selects (fR 5) yX5_keepsSum yX5_keepsSum ∈ gtbl := g_ix gT_9 29 rfl
set_option maxRecDepth 100000 in
theorem gp1_X5_keepsSum : (parseMethodDescriptor yX5_keepsSum.desc).map (fun d => d.parameters.length + 1) = some 2 := by decide +kernel
set_option maxRecDepth 100000 in
theorem gc_X5_keepsSum : Cond.code yX5_keepsSum cX5_keepsSum 4 (some .boolean) ∈ gtbl := g_ix gT_9 30 rfl
set_option maxRecDepth 100000 in
theorem gi_X5_keepsSum : Cond.initialized yX5_keepsSum.cls ∈ gtbl := g_ix gT_9 31 rfl
set_option maxRecDepth 100000 in
theorem gh_X5_keepsSum : yX5_keepsSum.cls ≠ "java/lang/invoke/MethodHandle" ∧ yX5_keepsSum.cls ≠ "java/lang/invoke/VarHandle" := ⟨by decide +kernel, by decide +kernel⟩
set_option maxRecDepth 100000 in
theorem gl_RX10_245 : Cond.methodLink RX10 245 yX5_staysSmall ∈ gtbl := g_ix gT_9 32 rfl
set_option maxRecDepth 100000 in
theorem gn_X5_staysSmall : Cond.instanceMethod yX5_staysSmall ∈ gtbl := g_ix gT_9 33 rfl
set_option maxRecDepth 100000 in
theorem gs_X5_staysSmall : Cond.selects (fR 5) yX5_staysSmall yX5_staysSmall ∈ gtbl := g_ix gT_9 34 rfl
set_option maxRecDepth 100000 in
theorem gp1_X5_staysSmall : (parseMethodDescriptor yX5_staysSmall.desc).map (fun d => d.parameters.length + 1) = some 2 := by decide +kernel
set_option maxRecDepth 100000 in
theorem gc_X5_staysSmall : Cond.code yX5_staysSmall cX5_staysSmall 4 (some .boolean) ∈ gtbl := g_ix gT_9 35 rfl
set_option maxRecDepth 100000 in
theorem gi_X5_staysSmall : Cond.initialized yX5_staysSmall.cls ∈ gtbl := g_ix gT_9 36 rfl
set_option maxRecDepth 100000 in
theorem gh_X5_staysSmall : yX5_staysSmall.cls ≠ "java/lang/invoke/MethodHandle" ∧ yX5_staysSmall.cls ≠ "java/lang/invoke/VarHandle" := ⟨by decide +kernel, by decide +kernel⟩
set_option maxRecDepth 100000 in
theorem gl_RX10_257 : Cond.methodLink RX10 257 yX1_keepSum ∈ gtbl := g_ix gT_9 37 rfl
set_option maxRecDepth 100000 in
theorem gn_X1_keepSum : Cond.instanceMethod yX1_keepSum ∈ gtbl := g_ix gT_9 38 rfl
set_option maxRecDepth 100000 in
theorem gs_X1_keepSum : Cond.selects (fR 1) yX1_keepSum yX1_keepSum ∈ gtbl := g_ix gT_9 39 rfl
set_option maxRecDepth 100000 in
theorem gp1_X1_keepSum : (parseMethodDescriptor yX1_keepSum.desc).map (fun d => d.parameters.length + 1) = some 6 := by decide +kernel
set_option maxRecDepth 100000 in
theorem gc_X1_keepSum : Cond.code yX1_keepSum cX1_keepSum 7 none ∈ gtbl := g_ix gT_9 40 rfl
set_option maxRecDepth 100000 in
theorem gi_X1_keepSum : Cond.initialized yX1_keepSum.cls ∈ gtbl := g_ix gT_9 41 rfl
set_option maxRecDepth 100000 in
theorem gh_X1_keepSum : yX1_keepSum.cls ≠ "java/lang/invoke/MethodHandle" ∧ yX1_keepSum.cls ≠ "java/lang/invoke/VarHandle" := ⟨by decide +kernel, by decide +kernel⟩
set_option maxRecDepth 100000 in
theorem gl_RX10_261 : Cond.methodLink RX10 261 yX1_toldSums ∈ gtbl := g_ix gT_9 42 rfl
set_option maxRecDepth 100000 in
theorem gn_X1_toldSums : Cond.instanceMethod yX1_toldSums ∈ gtbl := g_ix gT_9 43 rfl
set_option maxRecDepth 100000 in
theorem gs_X1_toldSums : Cond.selects (fR 1) yX1_toldSums yX1_toldSums ∈ gtbl := g_ix gT_9 44 rfl
set_option maxRecDepth 100000 in
theorem gp1_X1_toldSums : (parseMethodDescriptor yX1_toldSums.desc).map (fun d => d.parameters.length + 1) = some 1 := by decide +kernel
set_option maxRecDepth 100000 in
theorem gc_X1_toldSums : Cond.code yX1_toldSums cX1_toldSums 3 (some .int) ∈ gtbl := g_ix gT_9 45 rfl
set_option maxRecDepth 100000 in
theorem gi_X1_toldSums : Cond.initialized yX1_toldSums.cls ∈ gtbl := g_ix gT_9 46 rfl
set_option maxRecDepth 100000 in
theorem gh_X1_toldSums : yX1_toldSums.cls ≠ "java/lang/invoke/MethodHandle" ∧ yX1_toldSums.cls ≠ "java/lang/invoke/VarHandle" := ⟨by decide +kernel, by decide +kernel⟩
set_option maxRecDepth 100000 in
theorem gl_RX10_267 : Cond.methodLink RX10 267 yX1_failing ∈ gtbl := g_ix gT_9 47 rfl
set_option maxRecDepth 100000 in
theorem gn_X1_failing : Cond.instanceMethod yX1_failing ∈ gtbl := g_ix gT_9 48 rfl
set_option maxRecDepth 100000 in
theorem gs_X1_failing : Cond.selects (fR 1) yX1_failing yX1_failing ∈ gtbl := g_ix gT_9 49 rfl
set_option maxRecDepth 100000 in
theorem gp1_X1_failing : (parseMethodDescriptor yX1_failing.desc).map (fun d => d.parameters.length + 1) = some 3 := by decide +kernel
set_option maxRecDepth 100000 in
theorem gc_X1_failing : Cond.code yX1_failing cX1_failing 5 (some .int) ∈ gtbl := g_ix gT_10 0 rfl
set_option maxRecDepth 100000 in
theorem gi_X1_failing : Cond.initialized yX1_failing.cls ∈ gtbl := g_ix gT_10 1 rfl
set_option maxRecDepth 100000 in
theorem gh_X1_failing : yX1_failing.cls ≠ "java/lang/invoke/MethodHandle" ∧ yX1_failing.cls ≠ "java/lang/invoke/VarHandle" := ⟨by decide +kernel, by decide +kernel⟩
set_option maxRecDepth 100000 in
theorem gl_RX10_271 : Cond.methodLink RX10 271 yX1_agree ∈ gtbl := g_ix gT_10 2 rfl
set_option maxRecDepth 100000 in
theorem gn_X1_agree : Cond.instanceMethod yX1_agree ∈ gtbl := g_ix gT_10 3 rfl
set_option maxRecDepth 100000 in
theorem gs_X1_agree : Cond.selects (fR 1) yX1_agree yX1_agree ∈ gtbl := g_ix gT_10 4 rfl
set_option maxRecDepth 100000 in
theorem gp1_X1_agree : (parseMethodDescriptor yX1_agree.desc).map (fun d => d.parameters.length + 1) = some 1 := by decide +kernel
set_option maxRecDepth 100000 in
theorem gc_X1_agree : Cond.code yX1_agree cX1_agree 4 (some .boolean) ∈ gtbl := g_ix gT_10 5 rfl
set_option maxRecDepth 100000 in
theorem gi_X1_agree : Cond.initialized yX1_agree.cls ∈ gtbl := g_ix gT_10 6 rfl
set_option maxRecDepth 100000 in
theorem gh_X1_agree : yX1_agree.cls ≠ "java/lang/invoke/MethodHandle" ∧ yX1_agree.cls ≠ "java/lang/invoke/VarHandle" := ⟨by decide +kernel, by decide +kernel⟩
set_option maxRecDepth 100000 in
theorem gl_RX10_275 : Cond.methodLink RX10 275 yX1_fewestCells ∈ gtbl := g_ix gT_10 7 rfl
set_option maxRecDepth 100000 in
theorem gn_X1_fewestCells : Cond.instanceMethod yX1_fewestCells ∈ gtbl := g_ix gT_10 8 rfl
set_option maxRecDepth 100000 in
theorem gs_X1_fewestCells : Cond.selects (fR 1) yX1_fewestCells yX1_fewestCells ∈ gtbl := g_ix gT_10 9 rfl
set_option maxRecDepth 100000 in
theorem gp1_X1_fewestCells : (parseMethodDescriptor yX1_fewestCells.desc).map (fun d => d.parameters.length + 1) = some 3 := by decide +kernel
set_option maxRecDepth 100000 in
theorem gc_X1_fewestCells : Cond.code yX1_fewestCells cX1_fewestCells 6 (some .int) ∈ gtbl := g_ix gT_10 10 rfl
set_option maxRecDepth 100000 in
theorem gi_X1_fewestCells : Cond.initialized yX1_fewestCells.cls ∈ gtbl := g_ix gT_10 11 rfl
set_option maxRecDepth 100000 in
theorem gh_X1_fewestCells : yX1_fewestCells.cls ≠ "java/lang/invoke/MethodHandle" ∧ yX1_fewestCells.cls ≠ "java/lang/invoke/VarHandle" := ⟨by decide +kernel, by decide +kernel⟩
set_option maxRecDepth 100000 in
theorem gl_RX10_278 : Cond.methodLink RX10 278 yX0_made ∈ gtbl := g_ix gT_10 12 rfl
set_option maxRecDepth 100000 in
theorem gl_RX10_287 : Cond.methodLink RX10 287 yX10_isPerson ∈ gtbl := g_ix gT_10 13 rfl
set_option maxRecDepth 100000 in
theorem gt_X10_isPerson : Cond.static yX10_isPerson ∈ gtbl := g_ix gT_10 14 rfl
set_option maxRecDepth 100000 in
theorem gp0_X10_isPerson : (parseMethodDescriptor yX10_isPerson.desc).map (fun d => d.parameters.length) = some 1 := by decide +kernel
set_option maxRecDepth 100000 in
theorem gc_X10_isPerson : Cond.code yX10_isPerson cX10_isPerson 1 (some .boolean) ∈ gtbl := g_ix gT_10 15 rfl
set_option maxRecDepth 100000 in
theorem gi_X10_isPerson : Cond.initialized yX10_isPerson.cls ∈ gtbl := g_ix gT_10 16 rfl
set_option maxRecDepth 100000 in
theorem gh_X10_isPerson : yX10_isPerson.cls ≠ "java/lang/invoke/MethodHandle" ∧ yX10_isPerson.cls ≠ "java/lang/invoke/VarHandle" := ⟨by decide +kernel, by decide +kernel⟩
set_option maxRecDepth 100000 in
theorem gl_RX10_296 : Cond.methodLink RX10 296 yX9_restart ∈ gtbl := g_ix gT_10 17 rfl
set_option maxRecDepth 100000 in
theorem gl_RX10_299 : Cond.methodLink RX10 299 yX10_isCellOrAll ∈ gtbl := g_ix gT_10 18 rfl
set_option maxRecDepth 100000 in
theorem gn_X10_isCellOrAll : Cond.instanceMethod yX10_isCellOrAll ∈ gtbl := g_ix gT_10 19 rfl
set_option maxRecDepth 100000 in
theorem gs_X10_isCellOrAll : Cond.selects (fR 10) yX10_isCellOrAll yX10_isCellOrAll ∈ gtbl := g_ix gT_10 20 rfl
set_option maxRecDepth 100000 in
theorem gp1_X10_isCellOrAll : (parseMethodDescriptor yX10_isCellOrAll.desc).map (fun d => d.parameters.length + 1) = some 2 := by decide +kernel
set_option maxRecDepth 100000 in
theorem gc_X10_isCellOrAll : Cond.code yX10_isCellOrAll cX10_isCellOrAll 2 (some .boolean) ∈ gtbl := g_ix gT_10 21 rfl
set_option maxRecDepth 100000 in
theorem gi_X10_isCellOrAll : Cond.initialized yX10_isCellOrAll.cls ∈ gtbl := g_ix gT_10 22 rfl
set_option maxRecDepth 100000 in
theorem gh_X10_isCellOrAll : yX10_isCellOrAll.cls ≠ "java/lang/invoke/MethodHandle" ∧ yX10_isCellOrAll.cls ≠ "java/lang/invoke/VarHandle" := ⟨by decide +kernel, by decide +kernel⟩
set_option maxRecDepth 100000 in
theorem gl_RX10_302 : Cond.methodLink RX10 302 yX9_reach ∈ gtbl := g_ix gT_10 23 rfl
set_option maxRecDepth 100000 in
theorem gl_RX10_305 : Cond.methodLink RX10 305 yX9_lastMinute ∈ gtbl := g_ix gT_10 24 rfl
set_option maxRecDepth 100000 in
theorem gl_RX10_309 : Cond.methodLink RX10 309 yX9_ended ∈ gtbl := g_ix gT_10 25 rfl
set_option maxRecDepth 100000 in
theorem gl_RX10_313 : Cond.methodLink RX10 313 yX8_find ∈ gtbl := g_ix gT_10 26 rfl
set_option maxRecDepth 100000 in
theorem gn_X8_find : Cond.instanceMethod yX8_find ∈ gtbl := g_ix gT_10 27 rfl
set_option maxRecDepth 100000 in
theorem gs_X8_find : Cond.selects (fR 8) yX8_find yX8_find ∈ gtbl := g_ix gT_10 28 rfl
set_option maxRecDepth 100000 in
theorem gp1_X8_find : (parseMethodDescriptor yX8_find.desc).map (fun d => d.parameters.length + 1) = some 5 := by decide +kernel
set_option maxRecDepth 100000 in
theorem gc_X8_find : Cond.code yX8_find cX8_find 7 none ∈ gtbl := g_ix gT_10 29 rfl
set_option maxRecDepth 100000 in
theorem gi_X8_find : Cond.initialized yX8_find.cls ∈ gtbl := g_ix gT_10 30 rfl
set_option maxRecDepth 100000 in
theorem gh_X8_find : yX8_find.cls ≠ "java/lang/invoke/MethodHandle" ∧ yX8_find.cls ≠ "java/lang/invoke/VarHandle" := ⟨by decide +kernel, by decide +kernel⟩
set_option maxRecDepth 100000 in
theorem gl_RX10_323 : Cond.methodLink RX10 323 yX10_reckonSmall ∈ gtbl := g_ix gT_10 31 rfl
set_option maxRecDepth 100000 in
theorem gn_X10_reckonSmall : Cond.instanceMethod yX10_reckonSmall ∈ gtbl := g_ix gT_10 32 rfl
set_option maxRecDepth 100000 in
theorem gs_X10_reckonSmall : Cond.selects (fR 10) yX10_reckonSmall yX10_reckonSmall ∈ gtbl := g_ix gT_10 33 rfl
set_option maxRecDepth 100000 in
theorem gp1_X10_reckonSmall : (parseMethodDescriptor yX10_reckonSmall.desc).map (fun d => d.parameters.length + 1) = some 2 := by decide +kernel
set_option maxRecDepth 100000 in
theorem gc_X10_reckonSmall : Cond.code yX10_reckonSmall cX10_reckonSmall 4 none ∈ gtbl := g_ix gT_10 34 rfl
set_option maxRecDepth 100000 in
theorem gi_X10_reckonSmall : Cond.initialized yX10_reckonSmall.cls ∈ gtbl := g_ix gT_10 35 rfl
set_option maxRecDepth 100000 in
theorem gh_X10_reckonSmall : yX10_reckonSmall.cls ≠ "java/lang/invoke/MethodHandle" ∧ yX10_reckonSmall.cls ≠ "java/lang/invoke/VarHandle" := ⟨by decide +kernel, by decide +kernel⟩
set_option maxRecDepth 100000 in
theorem gl_RX10_326 : Cond.methodLink RX10 326 yX10_isOff ∈ gtbl := g_ix gT_10 36 rfl
set_option maxRecDepth 100000 in
theorem gn_X10_isOff : Cond.instanceMethod yX10_isOff ∈ gtbl := g_ix gT_10 37 rfl
set_option maxRecDepth 100000 in
theorem gs_X10_isOff : Cond.selects (fR 10) yX10_isOff yX10_isOff ∈ gtbl := g_ix gT_10 38 rfl
set_option maxRecDepth 100000 in
theorem gp1_X10_isOff : (parseMethodDescriptor yX10_isOff.desc).map (fun d => d.parameters.length + 1) = some 5 := by decide +kernel
set_option maxRecDepth 100000 in
theorem gc_X10_isOff : Cond.code yX10_isOff cX10_isOff 7 (some .boolean) ∈ gtbl := g_ix gT_10 39 rfl
set_option maxRecDepth 100000 in
theorem gi_X10_isOff : Cond.initialized yX10_isOff.cls ∈ gtbl := g_ix gT_10 40 rfl
set_option maxRecDepth 100000 in
theorem gh_X10_isOff : yX10_isOff.cls ≠ "java/lang/invoke/MethodHandle" ∧ yX10_isOff.cls ≠ "java/lang/invoke/VarHandle" := ⟨by decide +kernel, by decide +kernel⟩
set_option maxRecDepth 100000 in
theorem gl_RX10_330 : Cond.methodLink RX10 330 yX7_copyFrom ∈ gtbl := g_ix gT_10 41 rfl
set_option maxRecDepth 100000 in
theorem gn_X7_copyFrom : Cond.instanceMethod yX7_copyFrom ∈ gtbl := g_ix gT_10 42 rfl
set_option maxRecDepth 100000 in
theorem gs_X7_copyFrom : Cond.selects (fR 7) yX7_copyFrom yX7_copyFrom ∈ gtbl := g_ix gT_10 43 rfl
set_option maxRecDepth 100000 in
theorem gp1_X7_copyFrom : (parseMethodDescriptor yX7_copyFrom.desc).map (fun d => d.parameters.length + 1) = some 2 := by decide +kernel
set_option maxRecDepth 100000 in
theorem gc_X7_copyFrom : Cond.code yX7_copyFrom cX7_copyFrom 3 none ∈ gtbl := g_ix gT_10 44 rfl
set_option maxRecDepth 100000 in
theorem gi_X7_copyFrom : Cond.initialized yX7_copyFrom.cls ∈ gtbl := g_ix gT_10 45 rfl
set_option maxRecDepth 100000 in
theorem gh_X7_copyFrom : yX7_copyFrom.cls ≠ "java/lang/invoke/MethodHandle" ∧ yX7_copyFrom.cls ≠ "java/lang/invoke/VarHandle" := ⟨by decide +kernel, by decide +kernel⟩
set_option maxRecDepth 100000 in
theorem gl_RX10_334 : Cond.methodLink RX10 334 yX7_gaps ∈ gtbl := g_ix gT_10 46 rfl
set_option maxRecDepth 100000 in
theorem gn_X7_gaps : Cond.instanceMethod yX7_gaps ∈ gtbl := g_ix gT_10 47 rfl
set_option maxRecDepth 100000 in
theorem gs_X7_gaps : Cond.selects (fR 7) yX7_gaps yX7_gaps ∈ gtbl := g_ix gT_10 48 rfl
set_option maxRecDepth 100000 in
theorem gp1_X7_gaps : (parseMethodDescriptor yX7_gaps.desc).map (fun d => d.parameters.length + 1) = some 2 := by decide +kernel
set_option maxRecDepth 100000 in
theorem gc_X7_gaps : Cond.code yX7_gaps cX7_gaps 4 (some .int) ∈ gtbl := g_ix gT_10 49 rfl
set_option maxRecDepth 100000 in
theorem gi_X7_gaps : Cond.initialized yX7_gaps.cls ∈ gtbl := g_ix gT_11 0 rfl
set_option maxRecDepth 100000 in
theorem gh_X7_gaps : yX7_gaps.cls ≠ "java/lang/invoke/MethodHandle" ∧ yX7_gaps.cls ≠ "java/lang/invoke/VarHandle" := ⟨by decide +kernel, by decide +kernel⟩
set_option maxRecDepth 100000 in
theorem gl_RX10_338 : Cond.methodLink RX10 338 yX0_restart ∈ gtbl := g_ix gT_11 1 rfl
set_option maxRecDepth 100000 in
theorem gn_X0_restart : Cond.instanceMethod yX0_restart ∈ gtbl := g_ix gT_11 2 rfl
set_option maxRecDepth 100000 in
theorem gs_X0_restart : Cond.selects (fR 0) yX0_restart yX0_restart ∈ gtbl := g_ix gT_11 3 rfl
set_option maxRecDepth 100000 in
theorem gp1_X0_restart : (parseMethodDescriptor yX0_restart.desc).map (fun d => d.parameters.length + 1) = some 1 := by decide +kernel
set_option maxRecDepth 100000 in
theorem gc_X0_restart : Cond.code yX0_restart cX0_restart 1 none ∈ gtbl := g_ix gT_11 4 rfl
set_option maxRecDepth 100000 in
theorem gi_X0_restart : Cond.initialized yX0_restart.cls ∈ gtbl := g_ix gT_11 5 rfl
set_option maxRecDepth 100000 in
theorem gh_X0_restart : yX0_restart.cls ≠ "java/lang/invoke/MethodHandle" ∧ yX0_restart.cls ≠ "java/lang/invoke/VarHandle" := ⟨by decide +kernel, by decide +kernel⟩
set_option maxRecDepth 100000 in
theorem gl_RX10_339 : Cond.methodLink RX10 339 yX4_restart ∈ gtbl := g_ix gT_11 6 rfl
set_option maxRecDepth 100000 in
theorem gn_X4_restart : Cond.instanceMethod yX4_restart ∈ gtbl := g_ix gT_11 7 rfl
set_option maxRecDepth 100000 in
theorem gs_X4_restart : Cond.selects (fR 4) yX4_restart yX4_restart ∈ gtbl := g_ix gT_11 8 rfl
set_option maxRecDepth 100000 in
theorem gp1_X4_restart : (parseMethodDescriptor yX4_restart.desc).map (fun d => d.parameters.length + 1) = some 1 := by decide +kernel
set_option maxRecDepth 100000 in
theorem gc_X4_restart : Cond.code yX4_restart cX4_restart 1 none ∈ gtbl := g_ix gT_11 9 rfl
set_option maxRecDepth 100000 in
theorem gi_X4_restart : Cond.initialized yX4_restart.cls ∈ gtbl := g_ix gT_11 10 rfl
set_option maxRecDepth 100000 in
theorem gh_X4_restart : yX4_restart.cls ≠ "java/lang/invoke/MethodHandle" ∧ yX4_restart.cls ≠ "java/lang/invoke/VarHandle" := ⟨by decide +kernel, by decide +kernel⟩
set_option maxRecDepth 100000 in
theorem gl_RX10_340 : Cond.methodLink RX10 340 yX8_restart ∈ gtbl := g_ix gT_11 11 rfl
set_option maxRecDepth 100000 in
theorem gn_X8_restart : Cond.instanceMethod yX8_restart ∈ gtbl := g_ix gT_11 12 rfl
set_option maxRecDepth 100000 in
theorem gs_X8_restart : Cond.selects (fR 8) yX8_restart yX8_restart ∈ gtbl := g_ix gT_11 13 rfl
set_option maxRecDepth 100000 in
theorem gp1_X8_restart : (parseMethodDescriptor yX8_restart.desc).map (fun d => d.parameters.length + 1) = some 1 := by decide +kernel
set_option maxRecDepth 100000 in
theorem gc_X8_restart : Cond.code yX8_restart cX8_restart 1 none ∈ gtbl := g_ix gT_11 14 rfl
set_option maxRecDepth 100000 in
theorem gi_X8_restart : Cond.initialized yX8_restart.cls ∈ gtbl := g_ix gT_11 15 rfl
set_option maxRecDepth 100000 in
theorem gh_X8_restart : yX8_restart.cls ≠ "java/lang/invoke/MethodHandle" ∧ yX8_restart.cls ≠ "java/lang/invoke/VarHandle" := ⟨by decide +kernel, by decide +kernel⟩
set_option maxRecDepth 100000 in
theorem gl_RX10_341 : Cond.methodLink RX10 341 yX0_reach ∈ gtbl := g_ix gT_11 16 rfl
set_option maxRecDepth 100000 in
theorem gn_X0_reach : Cond.instanceMethod yX0_reach ∈ gtbl := g_ix gT_11 17 rfl
set_option maxRecDepth 100000 in
theorem gs_X0_reach : Cond.selects (fR 0) yX0_reach yX0_reach ∈ gtbl := g_ix gT_11 18 rfl
set_option maxRecDepth 100000 in
theorem gp1_X0_reach : (parseMethodDescriptor yX0_reach.desc).map (fun d => d.parameters.length + 1) = some 4 := by decide +kernel
set_option maxRecDepth 100000 in
theorem gc_X0_reach : Cond.code yX0_reach cX0_reach 9 none ∈ gtbl := g_ix gT_11 19 rfl
set_option maxRecDepth 100000 in
theorem gi_X0_reach : Cond.initialized yX0_reach.cls ∈ gtbl := g_ix gT_11 20 rfl
set_option maxRecDepth 100000 in
theorem gh_X0_reach : yX0_reach.cls ≠ "java/lang/invoke/MethodHandle" ∧ yX0_reach.cls ≠ "java/lang/invoke/VarHandle" := ⟨by decide +kernel, by decide +kernel⟩
set_option maxRecDepth 100000 in
theorem gl_RX10_348 : Cond.methodLink RX10 348 yX10_meanOfFour ∈ gtbl := g_ix gT_11 21 rfl
set_option maxRecDepth 100000 in
theorem gn_X10_meanOfFour : Cond.instanceMethod yX10_meanOfFour ∈ gtbl := g_ix gT_11 22 rfl
set_option maxRecDepth 100000 in
theorem gs_X10_meanOfFour : Cond.selects (fR 10) yX10_meanOfFour yX10_meanOfFour ∈ gtbl := g_ix gT_11 23 rfl
set_option maxRecDepth 100000 in
theorem gp1_X10_meanOfFour : (parseMethodDescriptor yX10_meanOfFour.desc).map (fun d => d.parameters.length + 1) = some 4 := by decide +kernel
set_option maxRecDepth 100000 in
theorem gc_X10_meanOfFour : Cond.code yX10_meanOfFour cX10_meanOfFour 11 (some .int) ∈ gtbl := g_ix gT_11 24 rfl
set_option maxRecDepth 100000 in
theorem gi_X10_meanOfFour : Cond.initialized yX10_meanOfFour.cls ∈ gtbl := g_ix gT_11 25 rfl
set_option maxRecDepth 100000 in
theorem gh_X10_meanOfFour : yX10_meanOfFour.cls ≠ "java/lang/invoke/MethodHandle" ∧ yX10_meanOfFour.cls ≠ "java/lang/invoke/VarHandle" := ⟨by decide +kernel, by decide +kernel⟩
set_option maxRecDepth 100000 in
theorem gl_RX10_351 : Cond.methodLink RX10 351 yX0_set ∈ gtbl := g_ix gT_11 26 rfl
set_option maxRecDepth 100000 in
theorem gl_RX10_357 : Cond.methodLink RX10 357 yJ9_floorDiv_f86c9 ∈ gtbl := g_ix gT_11 27 rfl
set_option maxRecDepth 100000 in
theorem gl_RX10_363 : Cond.methodLink RX10 363 yJ9_abs_067f4 ∈ gtbl := g_ix gT_11 28 rfl
set_option maxRecDepth 100000 in
theorem gl_RX11_112 : Cond.methodLink RX11 112 yX11_begins ∈ gtbl := g_ix gT_11 29 rfl
set_option maxRecDepth 100000 in
theorem gn_X11_begins : Cond.instanceMethod yX11_begins ∈ gtbl := g_ix gT_11 30 rfl
set_option maxRecDepth 100000 in
theorem gs_X11_begins : Cond.selects (fR 11) yX11_begins yX11_begins ∈ gtbl := g_ix gT_11 31 rfl
set_option maxRecDepth 100000 in
theorem gp1_X11_begins : (parseMethodDescriptor yX11_begins.desc).map (fun d => d.parameters.length + 1) = some 1 := by decide +kernel
set_option maxRecDepth 100000 in
theorem gc_X11_begins : Cond.code yX11_begins cX11_begins 2 none ∈ gtbl := g_ix gT_11 32 rfl
set_option maxRecDepth 100000 in
theorem gi_X11_begins : Cond.initialized yX11_begins.cls ∈ gtbl := g_ix gT_11 33 rfl
set_option maxRecDepth 100000 in
theorem gh_X11_begins : yX11_begins.cls ≠ "java/lang/invoke/MethodHandle" ∧ yX11_begins.cls ≠ "java/lang/invoke/VarHandle" := ⟨by decide +kernel, by decide +kernel⟩
set_option maxRecDepth 100000 in
theorem gl_RX11_119 : Cond.methodLink RX11 119 yX11_clears ∈ gtbl := g_ix gT_11 34 rfl
set_option maxRecDepth 100000 in
theorem gn_X11_clears : Cond.instanceMethod yX11_clears ∈ gtbl := g_ix gT_11 35 rfl
set_option maxRecDepth 100000 in
theorem gs_X11_clears : Cond.selects (fR 11) yX11_clears yX11_clears ∈ gtbl := g_ix gT_11 36 rfl
set_option maxRecDepth 100000 in
theorem gp1_X11_clears : (parseMethodDescriptor yX11_clears.desc).map (fun d => d.parameters.length + 1) = some 1 := by decide +kernel
set_option maxRecDepth 100000 in
theorem gc_X11_clears : Cond.code yX11_clears cX11_clears 2 none ∈ gtbl := g_ix gT_11 37 rfl
set_option maxRecDepth 100000 in
theorem gi_X11_clears : Cond.initialized yX11_clears.cls ∈ gtbl := g_ix gT_11 38 rfl
set_option maxRecDepth 100000 in
theorem gh_X11_clears : yX11_clears.cls ≠ "java/lang/invoke/MethodHandle" ∧ yX11_clears.cls ≠ "java/lang/invoke/VarHandle" := ⟨by decide +kernel, by decide +kernel⟩
set_option maxRecDepth 100000 in
theorem gl_RX11_124 : Cond.methodLink RX11 124 yX11_cells ∈ gtbl := g_ix gT_11 39 rfl
set_option maxRecDepth 100000 in
theorem gn_X11_cells : Cond.instanceMethod yX11_cells ∈ gtbl := g_ix gT_11 40 rfl
set_option maxRecDepth 100000 in
theorem gs_X11_cells : Cond.selects (fR 11) yX11_cells yX11_cells ∈ gtbl := g_ix gT_11 41 rfl
set_option maxRecDepth 100000 in
theorem gp1_X11_cells : (parseMethodDescriptor yX11_cells.desc).map (fun d => d.parameters.length + 1) = some 1 := by decide +kernel
set_option maxRecDepth 100000 in
theorem gc_X11_cells : Cond.code yX11_cells cX11_cells 1 (some .int) ∈ gtbl := g_ix gT_11 42 rfl
set_option maxRecDepth 100000 in
theorem gi_X11_cells : Cond.initialized yX11_cells.cls ∈ gtbl := g_ix gT_11 43 rfl
set_option maxRecDepth 100000 in
theorem gh_X11_cells : yX11_cells.cls ≠ "java/lang/invoke/MethodHandle" ∧ yX11_cells.cls ≠ "java/lang/invoke/VarHandle" := ⟨by decide +kernel, by decide +kernel⟩
set_option maxRecDepth 100000 in
theorem gl_RX11_128 : Cond.methodLink RX11 128 yX11_in ∈ gtbl := g_ix gT_11 44 rfl
set_option maxRecDepth 100000 in
theorem gt_X11_in : Cond.static yX11_in ∈ gtbl := g_ix gT_11 45 rfl
set_option maxRecDepth 100000 in
theorem gp0_X11_in : (parseMethodDescriptor yX11_in.desc).map (fun d => d.parameters.length) = some 3 := by decide +kernel
set_option maxRecDepth 100000 in
theorem gc_X11_in : Cond.code yX11_in cX11_in 6 (some .boolean) ∈ gtbl := g_ix gT_11 46 rfl
set_option maxRecDepth 100000 in
theorem gi_X11_in : Cond.initialized yX11_in.cls ∈ gtbl := g_ix gT_11 47 rfl
set_option maxRecDepth 100000 in
theorem gh_X11_in : yX11_in.cls ≠ "java/lang/invoke/MethodHandle" ∧ yX11_in.cls ≠ "java/lang/invoke/VarHandle" := ⟨by decide +kernel, by decide +kernel⟩
set_option maxRecDepth 100000 in
theorem gl_RX11_146 : Cond.methodLink RX11 146 yX11_isLetter ∈ gtbl := g_ix gT_11 48 rfl
set_option maxRecDepth 100000 in
theorem gt_X11_isLetter : Cond.static yX11_isLetter ∈ gtbl := g_ix gT_11 49 rfl
set_option maxRecDepth 100000 in
theorem gp0_X11_isLetter : (parseMethodDescriptor yX11_isLetter.desc).map (fun d => d.parameters.length) = some 1 := by decide +kernel
set_option maxRecDepth 100000 in
theorem gc_X11_isLetter : Cond.code yX11_isLetter cX11_isLetter 1 (some .boolean) ∈ gtbl := g_ix gT_12 0 rfl
set_option maxRecDepth 100000 in
theorem gi_X11_isLetter : Cond.initialized yX11_isLetter.cls ∈ gtbl := g_ix gT_12 1 rfl
set_option maxRecDepth 100000 in
theorem gh_X11_isLetter : yX11_isLetter.cls ≠ "java/lang/invoke/MethodHandle" ∧ yX11_isLetter.cls ≠ "java/lang/invoke/VarHandle" := ⟨by decide +kernel, by decide +kernel⟩
set_option maxRecDepth 100000 in
theorem gl_RX11_168 : Cond.methodLink RX11 168 yX11_byteAt ∈ gtbl := g_ix gT_12 2 rfl
set_option maxRecDepth 100000 in
theorem gn_X11_byteAt : Cond.instanceMethod yX11_byteAt ∈ gtbl := g_ix gT_12 3 rfl
set_option maxRecDepth 100000 in
theorem gs_X11_byteAt : Cond.selects (fR 11) yX11_byteAt yX11_byteAt ∈ gtbl := g_ix gT_12 4 rfl
set_option maxRecDepth 100000 in
theorem gp1_X11_byteAt : (parseMethodDescriptor yX11_byteAt.desc).map (fun d => d.parameters.length + 1) = some 2 := by decide +kernel
set_option maxRecDepth 100000 in
theorem gc_X11_byteAt : Cond.code yX11_byteAt cX11_byteAt 2 (some .int) ∈ gtbl := g_ix gT_12 5 rfl
set_option maxRecDepth 100000 in
theorem gi_X11_byteAt : Cond.initialized yX11_byteAt.cls ∈ gtbl := g_ix gT_12 6 rfl
set_option maxRecDepth 100000 in
theorem gh_X11_byteAt : yX11_byteAt.cls ≠ "java/lang/invoke/MethodHandle" ∧ yX11_byteAt.cls ≠ "java/lang/invoke/VarHandle" := ⟨by decide +kernel, by decide +kernel⟩
set_option maxRecDepth 100000 in
theorem gl_RX11_177 : Cond.methodLink RX11 177 yX11_fails ∈ gtbl := g_ix gT_12 7 rfl
set_option maxRecDepth 100000 in
theorem gn_X11_fails : Cond.instanceMethod yX11_fails ∈ gtbl := g_ix gT_12 8 rfl
set_option maxRecDepth 100000 in
theorem gs_X11_fails : Cond.selects (fR 11) yX11_fails yX11_fails ∈ gtbl := g_ix gT_12 9 rfl
set_option maxRecDepth 100000 in
theorem gp1_X11_fails : (parseMethodDescriptor yX11_fails.desc).map (fun d => d.parameters.length + 1) = some 2 := by decide +kernel
set_option maxRecDepth 100000 in
theorem gc_X11_fails : Cond.code yX11_fails cX11_fails 2 none ∈ gtbl := g_ix gT_12 10 rfl
set_option maxRecDepth 100000 in
theorem gi_X11_fails : Cond.initialized yX11_fails.cls ∈ gtbl := g_ix gT_12 11 rfl
set_option maxRecDepth 100000 in
theorem gh_X11_fails : yX11_fails.cls ≠ "java/lang/invoke/MethodHandle" ∧ yX11_fails.cls ≠ "java/lang/invoke/VarHandle" := ⟨by decide +kernel, by decide +kernel⟩
set_option maxRecDepth 100000 in
theorem gl_RX11_184 : Cond.methodLink RX11 184 yX11_number ∈ gtbl := g_ix gT_12 12 rfl
set_option maxRecDepth 100000 in
theorem gn_X11_number : Cond.instanceMethod yX11_number ∈ gtbl := g_ix gT_12 13 rfl
set_option maxRecDepth 100000 in
theorem gs_X11_number : Cond.selects (fR 11) yX11_number yX11_number ∈ gtbl := g_ix gT_12 14 rfl
set_option maxRecDepth 100000 in
theorem gp1_X11_number : (parseMethodDescriptor yX11_number.desc).map (fun d => d.parameters.length + 1) = some 2 := by decide +kernel
set_option maxRecDepth 100000 in
theorem gc_X11_number : Cond.code yX11_number cX11_number 4 (some .int) ∈ gtbl := g_ix gT_12 15 rfl
set_option maxRecDepth 100000 in
theorem gi_X11_number : Cond.initialized yX11_number.cls ∈ gtbl := g_ix gT_12 16 rfl
set_option maxRecDepth 100000 in
theorem gh_X11_number : yX11_number.cls ≠ "java/lang/invoke/MethodHandle" ∧ yX11_number.cls ≠ "java/lang/invoke/VarHandle" := ⟨by decide +kernel, by decide +kernel⟩
set_option maxRecDepth 100000 in
theorem gl_RX11_190 : Cond.methodLink RX11 190 yX11_name ∈ gtbl := g_ix gT_12 17 rfl
set_option maxRecDepth 100000 in
theorem gn_X11_name : Cond.instanceMethod yX11_name ∈ gtbl := g_ix gT_12 18 rfl
set_option maxRecDepth 100000 in
theorem gs_X11_name : Cond.selects (fR 11) yX11_name yX11_name ∈ gtbl := g_ix gT_12 19 rfl
set_option maxRecDepth 100000 in
theorem gp1_X11_name : (parseMethodDescriptor yX11_name.desc).map (fun d => d.parameters.length + 1) = some 1 := by decide +kernel
set_option maxRecDepth 100000 in
theorem gc_X11_name : Cond.code yX11_name cX11_name 7 (some .int) ∈ gtbl := g_ix gT_12 20 rfl
set_option maxRecDepth 100000 in
theorem gi_X11_name : Cond.initialized yX11_name.cls ∈ gtbl := g_ix gT_12 21 rfl
set_option maxRecDepth 100000 in
theorem gh_X11_name : yX11_name.cls ≠ "java/lang/invoke/MethodHandle" ∧ yX11_name.cls ≠ "java/lang/invoke/VarHandle" := ⟨by decide +kernel, by decide +kernel⟩
set_option maxRecDepth 100000 in
theorem gl_RX11_193 : Cond.methodLink RX11 193 yX11_term ∈ gtbl := g_ix gT_12 22 rfl
set_option maxRecDepth 100000 in
theorem gn_X11_term : Cond.instanceMethod yX11_term ∈ gtbl := g_ix gT_12 23 rfl
set_option maxRecDepth 100000 in
theorem gs_X11_term : Cond.selects (fR 11) yX11_term yX11_term ∈ gtbl := g_ix gT_12 24 rfl
set_option maxRecDepth 100000 in
theorem gp1_X11_term : (parseMethodDescriptor yX11_term.desc).map (fun d => d.parameters.length + 1) = some 2 := by decide +kernel
set_option maxRecDepth 100000 in
theorem gc_X11_term : Cond.code yX11_term cX11_term 4 none ∈ gtbl := g_ix gT_12 25 rfl
set_option maxRecDepth 100000 in
theorem gi_X11_term : Cond.initialized yX11_term.cls ∈ gtbl := g_ix gT_12 26 rfl
set_option maxRecDepth 100000 in
theorem gh_X11_term : yX11_term.cls ≠ "java/lang/invoke/MethodHandle" ∧ yX11_term.cls ≠ "java/lang/invoke/VarHandle" := ⟨by decide +kernel, by decide +kernel⟩
set_option maxRecDepth 100000 in
theorem gl_RX11_197 : Cond.methodLink RX11 197 yX11_readLine ∈ gtbl := g_ix gT_12 27 rfl
set_option maxRecDepth 100000 in
theorem gn_X11_readLine : Cond.instanceMethod yX11_readLine ∈ gtbl := g_ix gT_12 28 rfl
set_option maxRecDepth 100000 in
theorem gs_X11_readLine : Cond.selects (fR 11) yX11_readLine yX11_readLine ∈ gtbl := g_ix gT_12 29 rfl
set_option maxRecDepth 100000 in
theorem gp1_X11_readLine : (parseMethodDescriptor yX11_readLine.desc).map (fun d => d.parameters.length + 1) = some 1 := by decide +kernel
set_option maxRecDepth 100000 in
theorem gc_X11_readLine : Cond.code yX11_readLine cX11_readLine 6 none ∈ gtbl := g_ix gT_12 30 rfl
set_option maxRecDepth 100000 in
theorem gi_X11_readLine : Cond.initialized yX11_readLine.cls ∈ gtbl := g_ix gT_12 31 rfl
set_option maxRecDepth 100000 in
theorem gh_X11_readLine : yX11_readLine.cls ≠ "java/lang/invoke/MethodHandle" ∧ yX11_readLine.cls ≠ "java/lang/invoke/VarHandle" := ⟨by decide +kernel, by decide +kernel⟩
set_option maxRecDepth 100000 in
theorem gl_RX11_200 : Cond.methodLink RX11 200 yX11_faultOf ∈ gtbl := g_ix gT_12 32 rfl
set_option maxRecDepth 100000 in
theorem gn_X11_faultOf : Cond.instanceMethod yX11_faultOf ∈ gtbl := g_ix gT_12 33 rfl
set_option maxRecDepth 100000 in
theorem gs_X11_faultOf : Cond.selects (fR 11) yX11_faultOf yX11_faultOf ∈ gtbl := g_ix gT_12 34 rfl
set_option maxRecDepth 100000 in
theorem gp1_X11_faultOf : (parseMethodDescriptor yX11_faultOf.desc).map (fun d => d.parameters.length + 1) = some 1 := by decide +kernel
set_option maxRecDepth 100000 in
theorem gc_X11_faultOf : Cond.code yX11_faultOf cX11_faultOf 2 (some .int) ∈ gtbl := g_ix gT_12 35 rfl
set_option maxRecDepth 100000 in
theorem gi_X11_faultOf : Cond.initialized yX11_faultOf.cls ∈ gtbl := g_ix gT_12 36 rfl
set_option maxRecDepth 100000 in
theorem gh_X11_faultOf : yX11_faultOf.cls ≠ "java/lang/invoke/MethodHandle" ∧ yX11_faultOf.cls ≠ "java/lang/invoke/VarHandle" := ⟨by decide +kernel, by decide +kernel⟩
set_option maxRecDepth 100000 in
theorem gl_RX11_208 : Cond.methodLink RX11 208 yX11_hasProduct ∈ gtbl := g_ix gT_12 37 rfl
set_option maxRecDepth 100000 in
theorem gn_X11_hasProduct : Cond.instanceMethod yX11_hasProduct ∈ gtbl := g_ix gT_12 38 rfl
set_option maxRecDepth 100000 in
theorem gs_X11_hasProduct : Cond.selects (fR 11) yX11_hasProduct yX11_hasProduct ∈ gtbl := g_ix gT_12 39 rfl
set_option maxRecDepth 100000 in
theorem gp1_X11_hasProduct : (parseMethodDescriptor yX11_hasProduct.desc).map (fun d => d.parameters.length + 1) = some 2 := by decide +kernel
set_option maxRecDepth 100000 in
theorem gc_X11_hasProduct : Cond.code yX11_hasProduct cX11_hasProduct 4 (some .boolean) ∈ gtbl := g_ix gT_12 40 rfl
set_option maxRecDepth 100000 in
theorem gi_X11_hasProduct : Cond.initialized yX11_hasProduct.cls ∈ gtbl := g_ix gT_12 41 rfl
set_option maxRecDepth 100000 in
theorem gh_X11_hasProduct : yX11_hasProduct.cls ≠ "java/lang/invoke/MethodHandle" ∧ yX11_hasProduct.cls ≠ "java/lang/invoke/VarHandle" := ⟨by decide +kernel, by decide +kernel⟩
set_option maxRecDepth 100000 in
theorem gl_RX11_217 : Cond.methodLink RX11 217 yX11_place ∈ gtbl := g_ix gT_12 42 rfl
set_option maxRecDepth 100000 in
theorem gt_X11_place : Cond.static yX11_place ∈ gtbl := g_ix gT_12 43 rfl
set_option maxRecDepth 100000 in
theorem gp0_X11_place : (parseMethodDescriptor yX11_place.desc).map (fun d => d.parameters.length) = some 3 := by decide +kernel
set_option maxRecDepth 100000 in
theorem gc_X11_place : Cond.code yX11_place cX11_place 3 (some .int) ∈ gtbl := g_ix gT_12 44 rfl
set_option maxRecDepth 100000 in
theorem gi_X11_place : Cond.initialized yX11_place.cls ∈ gtbl := g_ix gT_12 45 rfl
set_option maxRecDepth 100000 in
theorem gh_X11_place : yX11_place.cls ≠ "java/lang/invoke/MethodHandle" ∧ yX11_place.cls ≠ "java/lang/invoke/VarHandle" := ⟨by decide +kernel, by decide +kernel⟩
set_option maxRecDepth 100000 in
theorem gl_RX11_221 : Cond.methodLink RX11 221 yX11_next ∈ gtbl := g_ix gT_12 46 rfl
set_option maxRecDepth 100000 in
theorem gn_X11_next : Cond.instanceMethod yX11_next ∈ gtbl := g_ix gT_12 47 rfl
set_option maxRecDepth 100000 in
theorem gs_X11_next : Cond.selects (fR 11) yX11_next yX11_next ∈ gtbl := g_ix gT_12 48 rfl
set_option maxRecDepth 100000 in
theorem gp1_X11_next : (parseMethodDescriptor yX11_next.desc).map (fun d => d.parameters.length + 1) = some 3 := by decide +kernel
set_option maxRecDepth 100000 in
theorem gc_X11_next : Cond.code yX11_next cX11_next 5 (some .int) ∈ gtbl := g_ix gT_12 49 rfl
set_option maxRecDepth 100000 in
theorem gi_X11_next : Cond.initialized yX11_next.cls ∈ gtbl := g_ix gT_13 0 rfl
set_option maxRecDepth 100000 in
theorem gh_X11_next : yX11_next.cls ≠ "java/lang/invoke/MethodHandle" ∧ yX11_next.cls ≠ "java/lang/invoke/VarHandle" := ⟨by decide +kernel, by decide +kernel⟩
set_option maxRecDepth 100000 in
theorem gl_RX11_225 : Cond.methodLink RX11 225 yX11_named ∈ gtbl := g_ix gT_13 1 rfl
set_option maxRecDepth 100000 in
theorem gn_X11_named : Cond.instanceMethod yX11_named ∈ gtbl := g_ix gT_13 2 rfl
set_option maxRecDepth 100000 in
theorem gs_X11_named : Cond.selects (fR 11) yX11_named yX11_named ∈ gtbl := g_ix gT_13 3 rfl
set_option maxRecDepth 100000 in
theorem gp1_X11_named : (parseMethodDescriptor yX11_named.desc).map (fun d => d.parameters.length + 1) = some 5 := by decide +kernel
set_option maxRecDepth 100000 in
theorem gc_X11_named : Cond.code yX11_named cX11_named 8 (some .int) ∈ gtbl := g_ix gT_13 4 rfl
set_option maxRecDepth 100000 in
theorem gi_X11_named : Cond.initialized yX11_named.cls ∈ gtbl := g_ix gT_13 5 rfl
set_option maxRecDepth 100000 in
theorem gh_X11_named : yX11_named.cls ≠ "java/lang/invoke/MethodHandle" ∧ yX11_named.cls ≠ "java/lang/invoke/VarHandle" := ⟨by decide +kernel, by decide +kernel⟩
set_option maxRecDepth 100000 in
theorem gl_RX11_231 : Cond.methodLink RX11 231 yX11_size ∈ gtbl := g_ix gT_13 6 rfl
set_option maxRecDepth 100000 in
theorem gt_X11_size : Cond.static yX11_size ∈ gtbl := g_ix gT_13 7 rfl
set_option maxRecDepth 100000 in
theorem gp0_X11_size : (parseMethodDescriptor yX11_size.desc).map (fun d => d.parameters.length) = some 1 := by decide +kernel
set_option maxRecDepth 100000 in
theorem gc_X11_size : Cond.code yX11_size cX11_size 2 (some .long) ∈ gtbl := g_ix gT_13 8 rfl
set_option maxRecDepth 100000 in
theorem gi_X11_size : Cond.initialized yX11_size.cls ∈ gtbl := g_ix gT_13 9 rfl
set_option maxRecDepth 100000 in
theorem gh_X11_size : yX11_size.cls ≠ "java/lang/invoke/MethodHandle" ∧ yX11_size.cls ≠ "java/lang/invoke/VarHandle" := ⟨by decide +kernel, by decide +kernel⟩
set_option maxRecDepth 100000 in
theorem gl_RX11_238 : Cond.methodLink RX11 238 yX11_downLong ∈ gtbl := g_ix gT_13 10 rfl
set_option maxRecDepth 100000 in
theorem gt_X11_downLong : Cond.static yX11_downLong ∈ gtbl := g_ix gT_13 11 rfl
set_option maxRecDepth 100000 in
theorem gp0_X11_downLong : (parseMethodDescriptor yX11_downLong.desc).map (fun d => d.parameters.length) = some 2 := by decide +kernel
set_option maxRecDepth 100000 in
theorem gc_X11_downLong : Cond.code yX11_downLong cX11_downLong 4 (some .long) ∈ gtbl := g_ix gT_13 12 rfl
set_option maxRecDepth 100000 in
theorem gi_X11_downLong : Cond.initialized yX11_downLong.cls ∈ gtbl := g_ix gT_13 13 rfl
set_option maxRecDepth 100000 in
theorem gh_X11_downLong : yX11_downLong.cls ≠ "java/lang/invoke/MethodHandle" ∧ yX11_downLong.cls ≠ "java/lang/invoke/VarHandle" := ⟨by decide +kernel, by decide +kernel⟩
set_option maxRecDepth 100000 in
theorem gl_RX11_244 : Cond.methodLink RX11 244 yX11_namedMarked ∈ gtbl := g_ix gT_13 14 rfl
set_option maxRecDepth 100000 in
theorem gn_X11_namedMarked : Cond.instanceMethod yX11_namedMarked ∈ gtbl := g_ix gT_13 15 rfl
set_option maxRecDepth 100000 in
theorem gs_X11_namedMarked : Cond.selects (fR 11) yX11_namedMarked yX11_namedMarked ∈ gtbl := g_ix gT_13 16 rfl
set_option maxRecDepth 100000 in
theorem gp1_X11_namedMarked : (parseMethodDescriptor yX11_namedMarked.desc).map (fun d => d.parameters.length + 1) = some 4 := by decide +kernel
set_option maxRecDepth 100000 in
theorem gc_X11_namedMarked : Cond.code yX11_namedMarked cX11_namedMarked 7 (some .boolean) ∈ gtbl := g_ix gT_13 17 rfl
set_option maxRecDepth 100000 in
theorem gi_X11_namedMarked : Cond.initialized yX11_namedMarked.cls ∈ gtbl := g_ix gT_13 18 rfl
set_option maxRecDepth 100000 in
theorem gh_X11_namedMarked : yX11_namedMarked.cls ≠ "java/lang/invoke/MethodHandle" ∧ yX11_namedMarked.cls ≠ "java/lang/invoke/VarHandle" := ⟨by decide +kernel, by decide +kernel⟩
set_option maxRecDepth 100000 in
theorem gl_RX11_248 : Cond.methodLink RX11 248 yX11_made ∈ gtbl := g_ix gT_13 19 rfl
set_option maxRecDepth 100000 in
theorem gn_X11_made : Cond.instanceMethod yX11_made ∈ gtbl := g_ix gT_13 20 rfl
set_option maxRecDepth 100000 in
theorem gs_X11_made : Cond.selects (fR 11) yX11_made yX11_made ∈ gtbl := g_ix gT_13 21 rfl
set_option maxRecDepth 100000 in
theorem gp1_X11_made : (parseMethodDescriptor yX11_made.desc).map (fun d => d.parameters.length + 1) = some 5 := by decide +kernel
set_option maxRecDepth 100000 in
theorem gc_X11_made : Cond.code yX11_made cX11_made 14 (some .int) ∈ gtbl := g_ix gT_13 22 rfl
set_option maxRecDepth 100000 in
theorem gi_X11_made : Cond.initialized yX11_made.cls ∈ gtbl := g_ix gT_13 23 rfl
set_option maxRecDepth 100000 in
theorem gh_X11_made : yX11_made.cls ≠ "java/lang/invoke/MethodHandle" ∧ yX11_made.cls ≠ "java/lang/invoke/VarHandle" := ⟨by decide +kernel, by decide +kernel⟩
set_option maxRecDepth 100000 in
theorem gl_RX11_251 : Cond.methodLink RX11 251 yX11_slipped ∈ gtbl := g_ix gT_13 24 rfl
set_option maxRecDepth 100000 in
theorem gn_X11_slipped : Cond.instanceMethod yX11_slipped ∈ gtbl := g_ix gT_13 25 rfl
set_option maxRecDepth 100000 in
theorem gs_X11_slipped : Cond.selects (fR 11) yX11_slipped yX11_slipped ∈ gtbl := g_ix gT_13 26 rfl
set_option maxRecDepth 100000 in
theorem gp1_X11_slipped : (parseMethodDescriptor yX11_slipped.desc).map (fun d => d.parameters.length + 1) = some 6 := by decide +kernel
set_option maxRecDepth 100000 in
theorem gc_X11_slipped : Cond.code yX11_slipped cX11_slipped 8 (some .int) ∈ gtbl := g_ix gT_13 27 rfl
set_option maxRecDepth 100000 in
theorem gi_X11_slipped : Cond.initialized yX11_slipped.cls ∈ gtbl := g_ix gT_13 28 rfl
set_option maxRecDepth 100000 in
theorem gh_X11_slipped : yX11_slipped.cls ≠ "java/lang/invoke/MethodHandle" ∧ yX11_slipped.cls ≠ "java/lang/invoke/VarHandle" := ⟨by decide +kernel, by decide +kernel⟩
set_option maxRecDepth 100000 in
theorem gl_RX11_255 : Cond.methodLink RX11 255 yX11_madeMarked ∈ gtbl := g_ix gT_13 29 rfl
set_option maxRecDepth 100000 in
theorem gn_X11_madeMarked : Cond.instanceMethod yX11_madeMarked ∈ gtbl := g_ix gT_13 30 rfl
set_option maxRecDepth 100000 in
theorem gs_X11_madeMarked : Cond.selects (fR 11) yX11_madeMarked yX11_madeMarked ∈ gtbl := g_ix gT_13 31 rfl
set_option maxRecDepth 100000 in
theorem gp1_X11_madeMarked : (parseMethodDescriptor yX11_madeMarked.desc).map (fun d => d.parameters.length + 1) = some 4 := by decide +kernel
set_option maxRecDepth 100000 in
theorem gc_X11_madeMarked : Cond.code yX11_madeMarked cX11_madeMarked 6 (some .boolean) ∈ gtbl := g_ix gT_13 32 rfl
set_option maxRecDepth 100000 in
theorem gi_X11_madeMarked : Cond.initialized yX11_madeMarked.cls ∈ gtbl := g_ix gT_13 33 rfl
set_option maxRecDepth 100000 in
theorem gh_X11_madeMarked : yX11_madeMarked.cls ≠ "java/lang/invoke/MethodHandle" ∧ yX11_madeMarked.cls ≠ "java/lang/invoke/VarHandle" := ⟨by decide +kernel, by decide +kernel⟩
set_option maxRecDepth 100000 in
theorem gl_RX11_258 : Cond.methodLink RX11 258 yX11_down ∈ gtbl := g_ix gT_13 34 rfl
set_option maxRecDepth 100000 in
theorem gt_X11_down : Cond.static yX11_down ∈ gtbl := g_ix gT_13 35 rfl
set_option maxRecDepth 100000 in
theorem gp0_X11_down : (parseMethodDescriptor yX11_down.desc).map (fun d => d.parameters.length) = some 2 := by decide +kernel
set_option maxRecDepth 100000 in
theorem gc_X11_down : Cond.code yX11_down cX11_down 4 (some .int) ∈ gtbl := g_ix gT_13 36 rfl
set_option maxRecDepth 100000 in
theorem gi_X11_down : Cond.initialized yX11_down.cls ∈ gtbl := g_ix gT_13 37 rfl
set_option maxRecDepth 100000 in
theorem gh_X11_down : yX11_down.cls ≠ "java/lang/invoke/MethodHandle" ∧ yX11_down.cls ≠ "java/lang/invoke/VarHandle" := ⟨by decide +kernel, by decide +kernel⟩
set_option maxRecDepth 100000 in
theorem gl_RX11_262 : Cond.methodLink RX11 262 yX11_filled ∈ gtbl := g_ix gT_13 38 rfl
set_option maxRecDepth 100000 in
theorem gn_X11_filled : Cond.instanceMethod yX11_filled ∈ gtbl := g_ix gT_13 39 rfl
set_option maxRecDepth 100000 in
theorem gs_X11_filled : Cond.selects (fR 11) yX11_filled yX11_filled ∈ gtbl := g_ix gT_13 40 rfl
set_option maxRecDepth 100000 in
theorem gp1_X11_filled : (parseMethodDescriptor yX11_filled.desc).map (fun d => d.parameters.length + 1) = some 3 := by decide +kernel
set_option maxRecDepth 100000 in
theorem gc_X11_filled : Cond.code yX11_filled cX11_filled 10 (some .int) ∈ gtbl := g_ix gT_13 41 rfl
set_option maxRecDepth 100000 in
theorem gi_X11_filled : Cond.initialized yX11_filled.cls ∈ gtbl := g_ix gT_13 42 rfl
set_option maxRecDepth 100000 in
theorem gh_X11_filled : yX11_filled.cls ≠ "java/lang/invoke/MethodHandle" ∧ yX11_filled.cls ≠ "java/lang/invoke/VarHandle" := ⟨by decide +kernel, by decide +kernel⟩
set_option maxRecDepth 100000 in
theorem gl_RX11_265 : Cond.methodLink RX11 265 yX11_steps ∈ gtbl := g_ix gT_13 43 rfl
set_option maxRecDepth 100000 in
theorem gn_X11_steps : Cond.instanceMethod yX11_steps ∈ gtbl := g_ix gT_13 44 rfl
set_option maxRecDepth 100000 in
theorem gs_X11_steps : Cond.selects (fR 11) yX11_steps yX11_steps ∈ gtbl := g_ix gT_13 45 rfl
set_option maxRecDepth 100000 in
theorem gp1_X11_steps : (parseMethodDescriptor yX11_steps.desc).map (fun d => d.parameters.length + 1) = some 3 := by decide +kernel
set_option maxRecDepth 100000 in
theorem gc_X11_steps : Cond.code yX11_steps cX11_steps 8 none ∈ gtbl := g_ix gT_13 46 rfl
set_option maxRecDepth 100000 in
theorem gi_X11_steps : Cond.initialized yX11_steps.cls ∈ gtbl := g_ix gT_13 47 rfl
set_option maxRecDepth 100000 in
theorem gh_X11_steps : yX11_steps.cls ≠ "java/lang/invoke/MethodHandle" ∧ yX11_steps.cls ≠ "java/lang/invoke/VarHandle" := ⟨by decide +kernel, by decide +kernel⟩
set_option maxRecDepth 100000 in
theorem gl_RX11_269 : Cond.methodLink RX11 269 yX11_isCell ∈ gtbl := g_ix gT_13 48 rfl
set_option maxRecDepth 100000 in
theorem gn_X11_isCell : Cond.instanceMethod yX11_isCell ∈ gtbl := g_ix gT_13 49 rfl
set_option maxRecDepth 100000 in
theorem gs_X11_isCell : Cond.selects (fR 11) yX11_isCell yX11_isCell ∈ gtbl := g_ix gT_14 0 rfl
set_option maxRecDepth 100000 in
theorem gp1_X11_isCell : (parseMethodDescriptor yX11_isCell.desc).map (fun d => d.parameters.length + 1) = some 2 := by decide +kernel
set_option maxRecDepth 100000 in
theorem gc_X11_isCell : Cond.code yX11_isCell cX11_isCell 2 (some .boolean) ∈ gtbl := g_ix gT_14 1 rfl
set_option maxRecDepth 100000 in
theorem gi_X11_isCell : Cond.initialized yX11_isCell.cls ∈ gtbl := g_ix gT_14 2 rfl
set_option maxRecDepth 100000 in
theorem gh_X11_isCell : yX11_isCell.cls ≠ "java/lang/invoke/MethodHandle" ∧ yX11_isCell.cls ≠ "java/lang/invoke/VarHandle" := ⟨by decide +kernel, by decide +kernel⟩
set_option maxRecDepth 100000 in
theorem gl_RX11_274 : Cond.methodLink RX11 274 yX11_isPlace ∈ gtbl := g_ix gT_14 3 rfl
set_option maxRecDepth 100000 in
theorem gn_X11_isPlace : Cond.instanceMethod yX11_isPlace ∈ gtbl := g_ix gT_14 4 rfl
set_option maxRecDepth 100000 in
theorem gs_X11_isPlace : Cond.selects (fR 11) yX11_isPlace yX11_isPlace ∈ gtbl := g_ix gT_14 5 rfl
set_option maxRecDepth 100000 in
theorem gp1_X11_isPlace : (parseMethodDescriptor yX11_isPlace.desc).map (fun d => d.parameters.length + 1) = some 4 := by decide +kernel
set_option maxRecDepth 100000 in
theorem gc_X11_isPlace : Cond.code yX11_isPlace cX11_isPlace 4 (some .boolean) ∈ gtbl := g_ix gT_14 6 rfl
set_option maxRecDepth 100000 in
theorem gi_X11_isPlace : Cond.initialized yX11_isPlace.cls ∈ gtbl := g_ix gT_14 7 rfl
set_option maxRecDepth 100000 in
theorem gh_X11_isPlace : yX11_isPlace.cls ≠ "java/lang/invoke/MethodHandle" ∧ yX11_isPlace.cls ≠ "java/lang/invoke/VarHandle" := ⟨by decide +kernel, by decide +kernel⟩
set_option maxRecDepth 100000 in
theorem gl_RX11_278 : Cond.methodLink RX11 278 yX11_all ∈ gtbl := g_ix gT_14 8 rfl
set_option maxRecDepth 100000 in
theorem gn_X11_all : Cond.instanceMethod yX11_all ∈ gtbl := g_ix gT_14 9 rfl
set_option maxRecDepth 100000 in
theorem gs_X11_all : Cond.selects (fR 11) yX11_all yX11_all ∈ gtbl := g_ix gT_14 10 rfl
set_option maxRecDepth 100000 in
theorem gp1_X11_all : (parseMethodDescriptor yX11_all.desc).map (fun d => d.parameters.length + 1) = some 1 := by decide +kernel
set_option maxRecDepth 100000 in
theorem gc_X11_all : Cond.code yX11_all cX11_all 1 (some .int) ∈ gtbl := g_ix gT_14 11 rfl
set_option maxRecDepth 100000 in
theorem gi_X11_all : Cond.initialized yX11_all.cls ∈ gtbl := g_ix gT_14 12 rfl
set_option maxRecDepth 100000 in
theorem gh_X11_all : yX11_all.cls ≠ "java/lang/invoke/MethodHandle" ∧ yX11_all.cls ≠ "java/lang/invoke/VarHandle" := ⟨by decide +kernel, by decide +kernel⟩
set_option maxRecDepth 100000 in
theorem gl_RX11_281 : Cond.methodLink RX11 281 yX11_hall ∈ gtbl := g_ix gT_14 13 rfl
set_option maxRecDepth 100000 in
theorem gn_X11_hall : Cond.instanceMethod yX11_hall ∈ gtbl := g_ix gT_14 14 rfl
set_option maxRecDepth 100000 in
theorem gs_X11_hall : Cond.selects (fR 11) yX11_hall yX11_hall ∈ gtbl := g_ix gT_14 15 rfl
set_option maxRecDepth 100000 in
theorem gp1_X11_hall : (parseMethodDescriptor yX11_hall.desc).map (fun d => d.parameters.length + 1) = some 3 := by decide +kernel
set_option maxRecDepth 100000 in
theorem gc_X11_hall : Cond.code yX11_hall cX11_hall 5 none ∈ gtbl := g_ix gT_14 16 rfl
set_option maxRecDepth 100000 in
theorem gi_X11_hall : Cond.initialized yX11_hall.cls ∈ gtbl := g_ix gT_14 17 rfl
set_option maxRecDepth 100000 in
theorem gh_X11_hall : yX11_hall.cls ≠ "java/lang/invoke/MethodHandle" ∧ yX11_hall.cls ≠ "java/lang/invoke/VarHandle" := ⟨by decide +kernel, by decide +kernel⟩
set_option maxRecDepth 100000 in
theorem gl_RX11_296 : Cond.methodLink RX11 296 yX11_tells ∈ gtbl := g_ix gT_14 18 rfl
set_option maxRecDepth 100000 in
theorem gn_X11_tells : Cond.instanceMethod yX11_tells ∈ gtbl := g_ix gT_14 19 rfl
set_option maxRecDepth 100000 in
theorem gs_X11_tells : Cond.selects (fR 11) yX11_tells yX11_tells ∈ gtbl := g_ix gT_14 20 rfl
set_option maxRecDepth 100000 in
theorem gp1_X11_tells : (parseMethodDescriptor yX11_tells.desc).map (fun d => d.parameters.length + 1) = some 1 := by decide +kernel
set_option maxRecDepth 100000 in
theorem gc_X11_tells : Cond.code yX11_tells cX11_tells 4 (some .int) ∈ gtbl := g_ix gT_14 21 rfl
set_option maxRecDepth 100000 in
theorem gi_X11_tells : Cond.initialized yX11_tells.cls ∈ gtbl := g_ix gT_14 22 rfl
set_option maxRecDepth 100000 in
theorem gh_X11_tells : yX11_tells.cls ≠ "java/lang/invoke/MethodHandle" ∧ yX11_tells.cls ≠ "java/lang/invoke/VarHandle" := ⟨by decide +kernel, by decide +kernel⟩
set_option maxRecDepth 100000 in
theorem gl_RX11_299 : Cond.methodLink RX11 299 yX11_isEven ∈ gtbl := g_ix gT_14 23 rfl
set_option maxRecDepth 100000 in
theorem gn_X11_isEven : Cond.instanceMethod yX11_isEven ∈ gtbl := g_ix gT_14 24 rfl
set_option maxRecDepth 100000 in
theorem gs_X11_isEven : Cond.selects (fR 11) yX11_isEven yX11_isEven ∈ gtbl := g_ix gT_14 25 rfl
set_option maxRecDepth 100000 in
theorem gp1_X11_isEven : (parseMethodDescriptor yX11_isEven.desc).map (fun d => d.parameters.length + 1) = some 3 := by decide +kernel
set_option maxRecDepth 100000 in
theorem gc_X11_isEven : Cond.code yX11_isEven cX11_isEven 7 (some .boolean) ∈ gtbl := g_ix gT_14 26 rfl
set_option maxRecDepth 100000 in
theorem gi_X11_isEven : Cond.initialized yX11_isEven.cls ∈ gtbl := g_ix gT_14 27 rfl
set_option maxRecDepth 100000 in
theorem gh_X11_isEven : yX11_isEven.cls ≠ "java/lang/invoke/MethodHandle" ∧ yX11_isEven.cls ≠ "java/lang/invoke/VarHandle" := ⟨by decide +kernel, by decide +kernel⟩
set_option maxRecDepth 100000 in
theorem gl_RX11_309 : Cond.methodLink RX11 309 yX11_ends ∈ gtbl := g_ix gT_14 28 rfl
set_option maxRecDepth 100000 in
theorem gn_X11_ends : Cond.instanceMethod yX11_ends ∈ gtbl := g_ix gT_14 29 rfl
set_option maxRecDepth 100000 in
theorem gs_X11_ends : Cond.selects (fR 11) yX11_ends yX11_ends ∈ gtbl := g_ix gT_14 30 rfl
set_option maxRecDepth 100000 in
theorem gp1_X11_ends : (parseMethodDescriptor yX11_ends.desc).map (fun d => d.parameters.length + 1) = some 2 := by decide +kernel
set_option maxRecDepth 100000 in
theorem gc_X11_ends : Cond.code yX11_ends cX11_ends 9 none ∈ gtbl := g_ix gT_14 31 rfl
set_option maxRecDepth 100000 in
theorem gi_X11_ends : Cond.initialized yX11_ends.cls ∈ gtbl := g_ix gT_14 32 rfl
set_option maxRecDepth 100000 in
theorem gh_X11_ends : yX11_ends.cls ≠ "java/lang/invoke/MethodHandle" ∧ yX11_ends.cls ≠ "java/lang/invoke/VarHandle" := ⟨by decide +kernel, by decide +kernel⟩
set_option maxRecDepth 100000 in
theorem gl_RX11_314 : Cond.methodLink RX11 314 yX11_ownEnds ∈ gtbl := g_ix gT_14 33 rfl
set_option maxRecDepth 100000 in
theorem gn_X11_ownEnds : Cond.instanceMethod yX11_ownEnds ∈ gtbl := g_ix gT_14 34 rfl
set_option maxRecDepth 100000 in
theorem gs_X11_ownEnds : Cond.selects (fR 11) yX11_ownEnds yX11_ownEnds ∈ gtbl := g_ix gT_14 35 rfl
set_option maxRecDepth 100000 in
theorem gp1_X11_ownEnds : (parseMethodDescriptor yX11_ownEnds.desc).map (fun d => d.parameters.length + 1) = some 1 := by decide +kernel
set_option maxRecDepth 100000 in
theorem gc_X11_ownEnds : Cond.code yX11_ownEnds cX11_ownEnds 2 none ∈ gtbl := g_ix gT_14 36 rfl
set_option maxRecDepth 100000 in
theorem gi_X11_ownEnds : Cond.initialized yX11_ownEnds.cls ∈ gtbl := g_ix gT_14 37 rfl
set_option maxRecDepth 100000 in
theorem gh_X11_ownEnds : yX11_ownEnds.cls ≠ "java/lang/invoke/MethodHandle" ∧ yX11_ownEnds.cls ≠ "java/lang/invoke/VarHandle" := ⟨by decide +kernel, by decide +kernel⟩
set_option maxRecDepth 100000 in
theorem gl_RX11_317 : Cond.methodLink RX11 317 yX11_lastOf ∈ gtbl := g_ix gT_14 38 rfl
set_option maxRecDepth 100000 in
theorem gn_X11_lastOf : Cond.instanceMethod yX11_lastOf ∈ gtbl := g_ix gT_14 39 rfl
set_option maxRecDepth 100000 in
theorem gs_X11_lastOf : Cond.selects (fR 11) yX11_lastOf yX11_lastOf ∈ gtbl := g_ix gT_14 40 rfl
set_option maxRecDepth 100000 in
theorem gp1_X11_lastOf : (parseMethodDescriptor yX11_lastOf.desc).map (fun d => d.parameters.length + 1) = some 2 := by decide +kernel
set_option maxRecDepth 100000 in
theorem gc_X11_lastOf : Cond.code yX11_lastOf cX11_lastOf 4 (some .int) ∈ gtbl := g_ix gT_14 41 rfl
set_option maxRecDepth 100000 in
theorem gi_X11_lastOf : Cond.initialized yX11_lastOf.cls ∈ gtbl := g_ix gT_14 42 rfl
set_option maxRecDepth 100000 in
theorem gh_X11_lastOf : yX11_lastOf.cls ≠ "java/lang/invoke/MethodHandle" ∧ yX11_lastOf.cls ≠ "java/lang/invoke/VarHandle" := ⟨by decide +kernel, by decide +kernel⟩
set_option maxRecDepth 100000 in
theorem gl_RX11_320 : Cond.methodLink RX11 320 yX11_gives ∈ gtbl := g_ix gT_14 43 rfl
set_option maxRecDepth 100000 in
theorem gn_X11_gives : Cond.instanceMethod yX11_gives ∈ gtbl := g_ix gT_14 44 rfl
set_option maxRecDepth 100000 in
theorem gs_X11_gives : Cond.selects (fR 11) yX11_gives yX11_gives ∈ gtbl := g_ix gT_14 45 rfl
set_option maxRecDepth 100000 in
theorem gp1_X11_gives : (parseMethodDescriptor yX11_gives.desc).map (fun d => d.parameters.length + 1) = some 3 := by decide +kernel
set_option maxRecDepth 100000 in
theorem gc_X11_gives : Cond.code yX11_gives cX11_gives 5 none ∈ gtbl := g_ix gT_14 46 rfl
set_option maxRecDepth 100000 in
theorem gi_X11_gives : Cond.initialized yX11_gives.cls ∈ gtbl := g_ix gT_14 47 rfl
set_option maxRecDepth 100000 in
theorem gh_X11_gives : yX11_gives.cls ≠ "java/lang/invoke/MethodHandle" ∧ yX11_gives.cls ≠ "java/lang/invoke/VarHandle" := ⟨by decide +kernel, by decide +kernel⟩
set_option maxRecDepth 100000 in
theorem gl_RX11_326 : Cond.methodLink RX11 326 yX11_slot ∈ gtbl := g_ix gT_14 48 rfl
set_option maxRecDepth 100000 in
theorem gn_X11_slot : Cond.instanceMethod yX11_slot ∈ gtbl := g_ix gT_14 49 rfl
set_option maxRecDepth 100000 in
theorem gs_X11_slot : Cond.selects (fR 11) yX11_slot yX11_slot ∈ gtbl := g_ix gT_15 0 rfl
set_option maxRecDepth 100000 in
theorem gp1_X11_slot : (parseMethodDescriptor yX11_slot.desc).map (fun d => d.parameters.length + 1) = some 6 := by decide +kernel
set_option maxRecDepth 100000 in
theorem gc_X11_slot : Cond.code yX11_slot cX11_slot 8 (some .int) ∈ gtbl := g_ix gT_15 1 rfl
set_option maxRecDepth 100000 in
theorem gi_X11_slot : Cond.initialized yX11_slot.cls ∈ gtbl := g_ix gT_15 2 rfl
set_option maxRecDepth 100000 in
theorem gh_X11_slot : yX11_slot.cls ≠ "java/lang/invoke/MethodHandle" ∧ yX11_slot.cls ≠ "java/lang/invoke/VarHandle" := ⟨by decide +kernel, by decide +kernel⟩
set_option maxRecDepth 100000 in
theorem gl_RX11_330 : Cond.methodLink RX11 330 yX11_moves ∈ gtbl := g_ix gT_15 3 rfl
set_option maxRecDepth 100000 in
theorem gn_X11_moves : Cond.instanceMethod yX11_moves ∈ gtbl := g_ix gT_15 4 rfl
set_option maxRecDepth 100000 in
theorem gs_X11_moves : Cond.selects (fR 11) yX11_moves yX11_moves ∈ gtbl := g_ix gT_15 5 rfl
set_option maxRecDepth 100000 in
theorem gp1_X11_moves : (parseMethodDescriptor yX11_moves.desc).map (fun d => d.parameters.length + 1) = some 5 := by decide +kernel
set_option maxRecDepth 100000 in
theorem gc_X11_moves : Cond.code yX11_moves cX11_moves 6 (some .int) ∈ gtbl := g_ix gT_15 6 rfl
set_option maxRecDepth 100000 in
theorem gi_X11_moves : Cond.initialized yX11_moves.cls ∈ gtbl := g_ix gT_15 7 rfl
set_option maxRecDepth 100000 in
theorem gh_X11_moves : yX11_moves.cls ≠ "java/lang/invoke/MethodHandle" ∧ yX11_moves.cls ≠ "java/lang/invoke/VarHandle" := ⟨by decide +kernel, by decide +kernel⟩
set_option maxRecDepth 100000 in
theorem gl_RX11_334 : Cond.methodLink RX11 334 yX11_moveAll ∈ gtbl := g_ix gT_15 8 rfl
set_option maxRecDepth 100000 in
theorem gn_X11_moveAll : Cond.instanceMethod yX11_moveAll ∈ gtbl := g_ix gT_15 9 rfl
set_option maxRecDepth 100000 in
theorem gs_X11_moveAll : Cond.selects (fR 11) yX11_moveAll yX11_moveAll ∈ gtbl := g_ix gT_15 10 rfl
set_option maxRecDepth 100000 in
theorem gp1_X11_moveAll : (parseMethodDescriptor yX11_moveAll.desc).map (fun d => d.parameters.length + 1) = some 3 := by decide +kernel
set_option maxRecDepth 100000 in
theorem gc_X11_moveAll : Cond.code yX11_moveAll cX11_moveAll 4 none ∈ gtbl := g_ix gT_15 11 rfl
set_option maxRecDepth 100000 in
theorem gi_X11_moveAll : Cond.initialized yX11_moveAll.cls ∈ gtbl := g_ix gT_15 12 rfl
set_option maxRecDepth 100000 in
theorem gh_X11_moveAll : yX11_moveAll.cls ≠ "java/lang/invoke/MethodHandle" ∧ yX11_moveAll.cls ≠ "java/lang/invoke/VarHandle" := ⟨by decide +kernel, by decide +kernel⟩
