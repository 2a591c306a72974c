def pv_tab_0 : List pv_Y := [mX0_byLetter, mX0_isOf, mX0_mealAdds, mX0_hasMice, mX0_hoursToMoult, mX0_hourAdds, mX0_held, mX0_afterHour, mX1_init, mX1_fill, mX1_weightIn, mX1_firstWith, mX1_spread, mX1_poundsThen, mX1_startKinds, mX1_passKinds, mX1_greatestPart, mX1_alikeTo, mX2_init, mX2_faultOf, mX2_signAt, mX2_skipBlanks, mX2_takeDog, mX2_takeCat, mX2_takeWeight]
set_option maxRecDepth 100000 in
theorem pv_tab_c0 : pv_tab_0.map (fun z => some (pv_code z)) = [378, 454, 430, 407, 410, 404, 413, 401, 194, 534, 541, 549, 557, 578, 670, 682, 674, 678, 103, 349, 358, 354, 363, 375, 367].map (fun i => lw_tbl[i]?) := by rfl
def pv_tab_1 : List pv_Y := [mX2_figureAt, mX3_init, mX3_hasNumber, mX3_isThere, mX3_hasRun, mX3_sizeOf, mX3_get, mX3_set, mX3_make, mX3_remove, mX3_move, mX3_sumOf, mX3_thereCount, mX3_mixInto, mX4_init, mX4_answerFinding, mX4_tell, mX4_greatestDivisor, mX5_init, mX5_begin, mX5_isCat, mX5_pound, mX5_rulerKind, mX5_rulerMeal, mX5_mealAdds]
set_option maxRecDepth 100000 in
theorem pv_tab_c1 : pv_tab_1.map (fun z => some (pv_code z)) = [371, 83, 262, 286, 290, 329, 294, 298, 270, 310, 318, 333, 743, 767, 210, 266, 622, 625, 133, 386, 423, 435, 574, 601, 427].map (fun i => lw_tbl[i]?) := by rfl
def pv_tab_2 : List pv_Y := [mX5_trait, mX5_countOf, mX5_weightOfSet, mX5_hasRoomFor, mX5_hasGoodsFor, mX5_doDeed, mX5_act, mX5_passHour, mX5_replay, mX5_hasKeptNumber, mX5_store, mX5_restore, mX5_keptTowns, mX6_init, mX6_row, mX6_lay, mX6_at, mX6_tear, mX6_copy, mX6_mean, mX6_text, mX6_put, mX6_fault, mX6_town, mX6_cat]
set_option maxRecDepth 100000 in
theorem pv_tab_c2 : pv_tab_2.map (fun z => some (pv_code z)) = [447, 462, 614, 471, 493, 475, 394, 398, 390, 510, 514, 522, 748, 75, 254, 274, 302, 306, 314, 325, 337, 341, 345, 382, 439].map (fun i => lw_tbl[i]?) := by rfl
def pv_tab_3 : List pv_Y := [mX6_mark, mX6_hour, mX6_feed, mX6_buy, mX6_sell, mX6_rule, mX6_undo, mX6_keep, mX6_on, mX6_weighs, mX6_when, mX6_steady, mX6_meals, mX6_gain, mX6_ring, mX6_plan, mX6_sacks, mX6_sure, mX6_ask, mX6_kinds, mX6_weights, mX6_test, mX6_fright, mX6_odds, mX6_mid]
set_option maxRecDepth 100000 in
theorem pv_tab_c3 : pv_tab_3.map (fun z => some (pv_code z)) = [451, 467, 481, 485, 489, 497, 501, 506, 518, 526, 545, 553, 561, 566, 583, 590, 606, 629, 637, 642, 662, 666, 686, 690, 706].map (fun i => lw_tbl[i]?) := by rfl
def pv_tab_4 : List pv_Y := [mX6_lots, mX6_asked, mX6_upper, mX6_lower, mX6_pence, mX6_count, mX6_finding, mX6_findings, mX6_digest, mX6_isWithin, mX6_makeAnew, mX6_refuseMissing, mX6_refusePlace, mX6_refuseLedger, mX6_lookAhead, mX6_lookAtPound, mX6_planWorth, mX6_isFedAhead, mX6_setCount, mX6_setsOf, mX6_setsWith, mX6_holdsPairs, mX6_fitsLedger, mX6_kindsFitting, mX6_weightByMice]
set_option maxRecDepth 100000 in
theorem pv_tab_c4 : pv_tab_4.map (fun z => some (pv_code z)) = [710, 723, 727, 731, 735, 739, 752, 756, 760, 443, 258, 282, 278, 646, 530, 570, 594, 597, 610, 618, 633, 650, 658, 654, 694].map (fun i => lw_tbl[i]?) := by rfl
def pv_tab_5 : List pv_Y := [mX6_shareOf, mX6_wholeOf, mX6_deedByLot, mX7_init, mX7_in, mX7_has, mX7_found, mX7_tell, mX7_answer, mX7_isRow, mX7_isText, mX7_row, mX7_lay, mX7_at, mX7_tear, mX7_copy, mX7_mean, mX7_text, mX7_put, mX7_byteAt, mX7_blanks, mX7_kindOf, mX7_takes, mX7_takesWeight, mX7_readsDog]
set_option maxRecDepth 100000 in
theorem pv_tab_c5 : pv_tab_5.map (fun z => some (pv_code z)) = [698, 701, 717, 773, 874, 1115, 878, 886, 1070, 870, 909, 867, 882, 890, 894, 898, 902, 906, 914, 930, 926, 950, 942, 938, 934].map (fun i => lw_tbl[i]?) := by rfl
def pv_tab_6 : List pv_Y := [mX7_readsCat, mX7_faultOf, mX7_fault, mX7_town, mX7_isCat, mX7_meal, mX7_changes, mX7_bound, mX7_after, mX7_afterOf, mX7_poundIn, mX7_pound, mX7_abs, mX7_told, mX7_cat, mX7_isOf, mX7_kindsOf, mX7_mark, mX7_copies, mX7_remember, mX7_hourGoes, mX7_eats, mX7_buys, mX7_hour, mX7_feed]
set_option maxRecDepth 100000 in
theorem pv_tab_c6 : pv_tab_6.map (fun z => some (pv_code z)) = [947, 922, 918, 954, 962, 970, 981, 984, 978, 974, 1083, 1014, 1090, 967, 958, 991, 995, 988, 1010, 1007, 1003, 1022, 1030, 999, 1018].map (fun i => lw_tbl[i]?) := by rfl
def pv_tab_7 : List pv_Y := [mX7_buy, mX7_sell, mX7_rule, mX7_undo, mX7_keep, mX7_on, mX7_weighs, mX7_when, mX7_steady, mX7_meals, mX7_gain, mX7_ring, mX7_planned, mX7_plan, mX7_isSack, mX7_fraction, mX7_refuses, mX7_sacks, mX7_sure, mX7_ask, mX7_wrongPairs, mX7_isSo, mX7_kindsBy, mX7_kinds, mX7_weights]
set_option maxRecDepth 100000 in
theorem pv_tab_c7 : pv_tab_7.map (fun z => some (pv_code z)) = [1026, 1034, 1038, 1042, 1046, 1051, 1055, 1060, 1065, 1074, 1079, 1087, 1099, 1094, 1112, 1119, 1107, 1103, 1123, 1127, 1135, 1144, 1140, 1131, 1148].map (fun i => lw_tbl[i]?) := by rfl
def pv_tab_8 : List pv_Y := [mX7_alike, mX7_test, mX7_beginsStep, mX7_weighsIt, mX7_goesOn, mX7_fright, mX7_chances, mX7_odds, mX7_mid, mX7_plays, mX7_lots, mX7_asked, mX7_upper, mX7_lower, mX7_pence, mX7_counted, mX7_count, mX7_finding, mX7_findings, mX7_digest]
set_option maxRecDepth 100000 in
theorem pv_tab_c8 : pv_tab_8.map (fun z => some (pv_code z)) = [1156, 1152, 1164, 1168, 1172, 1160, 1182, 1176, 1186, 1198, 1190, 1202, 1206, 1210, 1214, 1223, 1218, 1227, 1231, 1235].map (fun i => lw_tbl[i]?) := by rfl
