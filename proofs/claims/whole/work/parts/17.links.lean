/-! ===== links, looked up ===== -/
theorem ffX6_14 : pv_ff 6 14 = some (5, 0, false) := by decide +kernel
theorem ffX6_18 : pv_ff 6 18 = some (5, 1, false) := by decide +kernel
theorem ffX6_24 : pv_ff 6 24 = some (5, 2, false) := by decide +kernel
theorem ffX6_31 : pv_ff 6 31 = some (5, 3, false) := by decide +kernel
theorem ffX6_38 : pv_ff 6 38 = some (5, 4, false) := by decide +kernel
theorem ffX6_45 : pv_ff 6 45 = some (5, 5, false) := by decide +kernel
theorem ffX6_61 : pv_ff 6 61 = some (3, 1, true) := by decide +kernel
theorem ffX6_110 : pv_ff 6 110 = some (4, 7, true) := by decide +kernel
theorem ffX6_122 : pv_ff 6 122 = some (4, 0, true) := by decide +kernel
theorem ffX6_132 : pv_ff 6 132 = some (4, 9, true) := by decide +kernel
theorem ffX6_141 : pv_ff 6 141 = some (4, 1, true) := by decide +kernel
theorem ffX6_162 : pv_ff 6 162 = some (4, 3, true) := by decide +kernel
theorem ffX6_165 : pv_ff 6 165 = some (4, 12, true) := by decide +kernel
theorem ffX6_171 : pv_ff 6 171 = some (4, 10, true) := by decide +kernel
theorem ffX6_174 : pv_ff 6 174 = some (4, 13, true) := by decide +kernel
theorem ffX6_186 : pv_ff 6 186 = some (4, 5, true) := by decide +kernel
theorem ffX6_218 : pv_ff 6 218 = some (4, 8, true) := by decide +kernel
theorem ffX6_300 : pv_ff 6 300 = some (3, 2, true) := by decide +kernel
theorem ffX6_304 : pv_ff 6 304 = some (3, 3, true) := by decide +kernel
theorem ffX6_307 : pv_ff 6 307 = some (4, 11, true) := by decide +kernel
theorem ffX6_316 : pv_ff 6 316 = some (3, 4, true) := by decide +kernel
theorem ffX6_319 : pv_ff 6 319 = some (3, 0, true) := by decide +kernel
theorem ffX6_333 : pv_ff 6 333 = some (2, 0, true) := by decide +kernel
theorem ffX1_9 : pv_ff 1 9 = some (0, 0, false) := by decide +kernel
theorem ffX1_15 : pv_ff 1 15 = some (0, 1, false) := by decide +kernel
theorem ffX1_27 : pv_ff 1 27 = some (0, 2, false) := by decide +kernel
theorem ffX2_9 : pv_ff 2 9 = some (1, 0, false) := by decide +kernel
theorem ffX2_15 : pv_ff 2 15 = some (1, 1, false) := by decide +kernel
theorem ffX2_18 : pv_ff 2 18 = some (1, 2, false) := by decide +kernel
theorem ffX2_27 : pv_ff 2 27 = some (1, 5, false) := by decide +kernel
theorem ffX2_31 : pv_ff 2 31 = some (1, 4, false) := by decide +kernel
theorem ffX2_56 : pv_ff 2 56 = some (1, 3, false) := by decide +kernel
theorem ffX3_7 : pv_ff 3 7 = some (2, 0, false) := by decide +kernel
theorem ffX3_13 : pv_ff 3 13 = some (2, 1, false) := by decide +kernel
theorem ffX3_19 : pv_ff 3 19 = some (2, 2, false) := by decide +kernel
theorem ffX4_9 : pv_ff 4 9 = some (3, 0, false) := by decide +kernel
theorem ffX4_15 : pv_ff 4 15 = some (3, 3, false) := by decide +kernel
theorem ffX4_19 : pv_ff 4 19 = some (3, 4, false) := by decide +kernel
theorem ffX4_27 : pv_ff 4 27 = some (3, 2, false) := by decide +kernel
theorem ffX5_9 : pv_ff 5 9 = some (4, 0, false) := by decide +kernel
theorem ffX5_15 : pv_ff 5 15 = some (4, 1, false) := by decide +kernel
theorem ffX5_18 : pv_ff 5 18 = some (4, 2, false) := by decide +kernel
theorem ffX5_21 : pv_ff 5 21 = some (4, 3, false) := by decide +kernel
theorem ffX5_24 : pv_ff 5 24 = some (4, 4, false) := by decide +kernel
theorem ffX5_27 : pv_ff 5 27 = some (4, 5, false) := by decide +kernel
theorem ffX5_32 : pv_ff 5 32 = some (4, 6, false) := by decide +kernel
theorem ffX5_35 : pv_ff 5 35 = some (1, 4, true) := by decide +kernel
theorem ffX5_41 : pv_ff 5 41 = some (4, 7, false) := by decide +kernel
theorem ffX5_42 : pv_ff 5 42 = some (1, 3, true) := by decide +kernel
theorem ffX5_45 : pv_ff 5 45 = some (4, 8, false) := by decide +kernel
theorem ffX5_46 : pv_ff 5 46 = some (1, 0, true) := by decide +kernel
theorem ffX5_47 : pv_ff 5 47 = some (1, 2, true) := by decide +kernel
theorem ffX5_48 : pv_ff 5 48 = some (1, 1, true) := by decide +kernel
theorem ffX5_53 : pv_ff 5 53 = some (4, 10, false) := by decide +kernel
theorem ffX5_69 : pv_ff 5 69 = some (4, 9, false) := by decide +kernel
theorem ffX5_80 : pv_ff 5 80 = some (4, 13, false) := by decide +kernel
theorem ffX5_83 : pv_ff 5 83 = some (4, 12, false) := by decide +kernel
theorem ffX5_102 : pv_ff 5 102 = some (4, 11, false) := by decide +kernel
theorem ffX7_7 : pv_ff 7 7 = some (6, 0, false) := by decide +kernel
theorem ffX7_13 : pv_ff 7 13 = some (6, 1, false) := by decide +kernel
theorem ffX7_16 : pv_ff 7 16 = some (6, 2, false) := by decide +kernel
theorem ffX7_19 : pv_ff 7 19 = some (6, 3, false) := by decide +kernel
theorem ffX7_22 : pv_ff 7 22 = some (6, 6, false) := by decide +kernel
theorem ffX7_25 : pv_ff 7 25 = some (6, 7, false) := by decide +kernel
theorem ffX7_28 : pv_ff 7 28 = some (6, 8, false) := by decide +kernel
theorem ffX7_31 : pv_ff 7 31 = some (6, 10, false) := by decide +kernel
theorem ffX7_34 : pv_ff 7 34 = some (6, 11, false) := by decide +kernel
theorem ffX7_37 : pv_ff 7 37 = some (6, 12, false) := by decide +kernel
theorem ffX7_41 : pv_ff 7 41 = some (6, 15, false) := by decide +kernel
theorem ffX7_45 : pv_ff 7 45 = some (6, 17, false) := by decide +kernel
theorem ffX7_48 : pv_ff 7 48 = some (6, 21, false) := by decide +kernel
theorem ffX7_51 : pv_ff 7 51 = some (6, 24, false) := by decide +kernel
theorem ffX7_54 : pv_ff 7 54 = some (6, 25, false) := by decide +kernel
theorem ffX7_57 : pv_ff 7 57 = some (6, 26, false) := by decide +kernel
theorem ffX7_60 : pv_ff 7 60 = some (6, 27, false) := by decide +kernel
theorem ffX7_63 : pv_ff 7 63 = some (6, 28, false) := by decide +kernel
theorem ffX7_66 : pv_ff 7 66 = some (6, 16, false) := by decide +kernel
theorem ffX7_70 : pv_ff 7 70 = some (6, 13, false) := by decide +kernel
theorem ffX7_95 : pv_ff 7 95 = some (6, 18, false) := by decide +kernel
theorem ffX7_101 : pv_ff 7 101 = some (6, 22, false) := by decide +kernel
theorem ffX7_110 : pv_ff 7 110 = some (6, 23, false) := by decide +kernel
theorem ffX7_116 : pv_ff 7 116 = some (6, 19, false) := by decide +kernel
theorem ffX7_122 : pv_ff 7 122 = some (6, 20, false) := by decide +kernel
theorem ffX7_138 : pv_ff 7 138 = some (6, 4, false) := by decide +kernel
theorem ffX7_141 : pv_ff 7 141 = some (6, 5, false) := by decide +kernel
theorem ffX7_144 : pv_ff 7 144 = some (6, 9, false) := by decide +kernel
theorem ffX7_224 : pv_ff 7 224 = some (6, 14, false) := by decide +kernel
set_option maxRecDepth 100000 in
theorem mfX0_9 : pv_mf 0 9 = some (1, mX0_hasMice) := by rfl
set_option maxRecDepth 100000 in
theorem mfX0_15 : pv_mf 0 15 = some (1, mX0_hoursToMoult) := by rfl
theorem mfX0_19 : pv_mf 0 19 = none := by rfl
theorem mfX0_25 : pv_mf 0 25 = none := by rfl
set_option maxRecDepth 100000 in
theorem mfX0_28 : pv_mf 0 28 = some (1, mX0_hourAdds) := by rfl
set_option maxRecDepth 100000 in
theorem mfX0_31 : pv_mf 0 31 = some (1, mX0_held) := by rfl
theorem mfX1_18 : pv_mf 1 18 = none := by rfl
theorem mfX1_24 : pv_mf 1 24 = none := by rfl
set_option maxRecDepth 100000 in
theorem mfX1_31 : pv_mf 1 31 = some (1, mX0_afterHour) := by rfl
set_option maxRecDepth 100000 in
theorem mfX1_37 : pv_mf 1 37 = some (0, mX1_weightIn) := by rfl
set_option maxRecDepth 100000 in
theorem mfX1_41 : pv_mf 1 41 = some (0, mX1_alikeTo) := by rfl
set_option maxRecDepth 100000 in
theorem mfX2_21 : pv_mf 2 21 = some (0, mX3_sizeOf) := by rfl
set_option maxRecDepth 100000 in
theorem mfX2_34 : pv_mf 2 34 = some (0, mX2_skipBlanks) := by rfl
set_option maxRecDepth 100000 in
theorem mfX2_38 : pv_mf 2 38 = some (0, mX2_takeDog) := by rfl
set_option maxRecDepth 100000 in
theorem mfX2_42 : pv_mf 2 42 = some (0, mX2_takeCat) := by rfl
set_option maxRecDepth 100000 in
theorem mfX2_45 : pv_mf 2 45 = some (0, mX3_get) := by rfl
set_option maxRecDepth 100000 in
theorem mfX2_49 : pv_mf 2 49 = some (0, mX2_signAt) := by rfl
set_option maxRecDepth 100000 in
theorem mfX2_53 : pv_mf 2 53 = some (0, mX2_takeWeight) := by rfl
set_option maxRecDepth 100000 in
theorem mfX2_59 : pv_mf 2 59 = some (1, mX0_byLetter) := by rfl
set_option maxRecDepth 100000 in
theorem mfX2_64 : pv_mf 2 64 = some (0, mX2_figureAt) := by rfl
set_option maxRecDepth 100000 in
theorem mfX3_28 : pv_mf 3 28 = some (0, mX3_isThere) := by rfl
set_option maxRecDepth 100000 in
theorem mfX4_23 : pv_mf 4 23 = some (1, mX4_greatestDivisor) := by rfl
set_option maxRecDepth 100000 in
theorem mfX5_49 : pv_mf 5 49 = some (0, mX5_replay) := by rfl
set_option maxRecDepth 100000 in
theorem mfX5_56 : pv_mf 5 56 = some (0, mX5_isCat) := by rfl
set_option maxRecDepth 100000 in
theorem mfX5_60 : pv_mf 5 60 = some (0, mX5_mealAdds) := by rfl
set_option maxRecDepth 100000 in
theorem mfX5_64 : pv_mf 5 64 = some (1, mX0_mealAdds) := by rfl
set_option maxRecDepth 100000 in
theorem mfX5_72 : pv_mf 5 72 = some (1, mX0_afterHour) := by rfl
set_option maxRecDepth 100000 in
theorem mfX5_76 : pv_mf 5 76 = some (1, mX0_isOf) := by rfl
set_option maxRecDepth 100000 in
theorem mfX5_86 : pv_mf 5 86 = some (0, mX5_pound) := by rfl
set_option maxRecDepth 100000 in
theorem mfX5_90 : pv_mf 5 90 = some (0, mX5_hasRoomFor) := by rfl
set_option maxRecDepth 100000 in
theorem mfX5_93 : pv_mf 5 93 = some (0, mX5_act) := by rfl
set_option maxRecDepth 100000 in
theorem mfX5_96 : pv_mf 5 96 = some (0, mX5_passHour) := by rfl
set_option maxRecDepth 100000 in
theorem mfX5_99 : pv_mf 5 99 = some (1, mX0_held) := by rfl
set_option maxRecDepth 100000 in
theorem mfX6_11 : pv_mf 6 11 = some (2, mX3_init) := by rfl
set_option maxRecDepth 100000 in
theorem mfX6_23 : pv_mf 6 23 = some (3, mX2_init) := by rfl
set_option maxRecDepth 100000 in
theorem mfX6_30 : pv_mf 6 30 = some (2, mX5_init) := by rfl
set_option maxRecDepth 100000 in
theorem mfX6_37 : pv_mf 6 37 = some (3, mX1_init) := by rfl
set_option maxRecDepth 100000 in
theorem mfX6_44 : pv_mf 6 44 = some (3, mX4_init) := by rfl
set_option maxRecDepth 100000 in
theorem mfX6_49 : pv_mf 6 49 = some (0, mX6_makeAnew) := by rfl
set_option maxRecDepth 100000 in
theorem mfX6_53 : pv_mf 6 53 = some (0, mX6_refusePlace) := by rfl
set_option maxRecDepth 100000 in
theorem mfX6_57 : pv_mf 6 57 = some (0, mX3_get) := by rfl
set_option maxRecDepth 100000 in
theorem mfX6_65 : pv_mf 6 65 = some (0, mX3_set) := by rfl
set_option maxRecDepth 100000 in
theorem mfX6_69 : pv_mf 6 69 = some (0, mX6_refuseMissing) := by rfl
set_option maxRecDepth 100000 in
theorem mfX6_73 : pv_mf 6 73 = some (0, mX3_remove) := by rfl
set_option maxRecDepth 100000 in
theorem mfX6_77 : pv_mf 6 77 = some (0, mX3_hasNumber) := by rfl
set_option maxRecDepth 100000 in
theorem mfX6_81 : pv_mf 6 81 = some (0, mX4_answerFinding) := by rfl
set_option maxRecDepth 100000 in
theorem mfX6_85 : pv_mf 6 85 = some (0, mX3_isThere) := by rfl
set_option maxRecDepth 100000 in
theorem mfX6_88 : pv_mf 6 88 = some (0, mX3_hasRun) := by rfl
set_option maxRecDepth 100000 in
theorem mfX6_92 : pv_mf 6 92 = some (0, mX3_move) := by rfl
set_option maxRecDepth 100000 in
theorem mfX6_96 : pv_mf 6 96 = some (0, mX3_sizeOf) := by rfl
set_option maxRecDepth 100000 in
theorem mfX6_99 : pv_mf 6 99 = some (0, mX3_sumOf) := by rfl
set_option maxRecDepth 100000 in
theorem mfX6_103 : pv_mf 6 103 = some (0, mX2_faultOf) := by rfl
set_option maxRecDepth 100000 in
theorem mfX6_106 : pv_mf 6 106 = some (0, mX5_begin) := by rfl
set_option maxRecDepth 100000 in
theorem mfX6_113 : pv_mf 6 113 = some (0, mX5_isCat) := by rfl
set_option maxRecDepth 100000 in
theorem mfX6_116 : pv_mf 6 116 = some (1, mX6_isWithin) := by rfl
set_option maxRecDepth 100000 in
theorem mfX6_119 : pv_mf 6 119 = some (0, mX5_trait) := by rfl
set_option maxRecDepth 100000 in
theorem mfX6_126 : pv_mf 6 126 = some (1, mX0_isOf) := by rfl
set_option maxRecDepth 100000 in
theorem mfX6_135 : pv_mf 6 135 = some (1, mX0_hasMice) := by rfl
set_option maxRecDepth 100000 in
theorem mfX6_138 : pv_mf 6 138 = some (1, mX0_hoursToMoult) := by rfl
set_option maxRecDepth 100000 in
theorem mfX6_144 : pv_mf 6 144 = some (0, mX5_mealAdds) := by rfl
set_option maxRecDepth 100000 in
theorem mfX6_147 : pv_mf 6 147 = some (1, mX0_mealAdds) := by rfl
set_option maxRecDepth 100000 in
theorem mfX6_149 : pv_mf 6 149 = some (0, mX5_countOf) := by rfl
set_option maxRecDepth 100000 in
theorem mfX6_152 : pv_mf 6 152 = some (0, mX5_hasRoomFor) := by rfl
set_option maxRecDepth 100000 in
theorem mfX6_155 : pv_mf 6 155 = some (0, mX5_doDeed) := by rfl
set_option maxRecDepth 100000 in
theorem mfX6_158 : pv_mf 6 158 = some (0, mX5_pound) := by rfl
set_option maxRecDepth 100000 in
theorem mfX6_168 : pv_mf 6 168 = some (0, mX5_hasGoodsFor) := by rfl
set_option maxRecDepth 100000 in
theorem mfX6_177 : pv_mf 6 177 = some (0, mX5_replay) := by rfl
set_option maxRecDepth 100000 in
theorem mfX6_180 : pv_mf 6 180 = some (0, mX5_hasKeptNumber) := by rfl
set_option maxRecDepth 100000 in
theorem mfX6_183 : pv_mf 6 183 = some (0, mX5_store) := by rfl
set_option maxRecDepth 100000 in
theorem mfX6_189 : pv_mf 6 189 = some (0, mX5_restore) := by rfl
set_option maxRecDepth 100000 in
theorem mfX6_192 : pv_mf 6 192 = some (0, mX6_lookAhead) := by rfl
set_option maxRecDepth 100000 in
theorem mfX6_195 : pv_mf 6 195 = some (0, mX1_weightIn) := by rfl
set_option maxRecDepth 100000 in
theorem mfX6_198 : pv_mf 6 198 = some (0, mX1_firstWith) := by rfl
set_option maxRecDepth 100000 in
theorem mfX6_201 : pv_mf 6 201 = some (0, mX1_spread) := by rfl
set_option maxRecDepth 100000 in
theorem mfX6_204 : pv_mf 6 204 = some (0, mX1_fill) := by rfl
set_option maxRecDepth 100000 in
theorem mfX6_208 : pv_mf 6 208 = some (1, mX0_held) := by rfl
set_option maxRecDepth 100000 in
theorem mfX6_211 : pv_mf 6 211 = some (0, mX6_lookAtPound) := by rfl
set_option maxRecDepth 100000 in
theorem mfX6_214 : pv_mf 6 214 = some (0, mX1_poundsThen) := by rfl
theorem mfX6_221 : pv_mf 6 221 = none := by rfl
set_option maxRecDepth 100000 in
theorem mfX6_226 : pv_mf 6 226 = some (0, mX6_planWorth) := by rfl
set_option maxRecDepth 100000 in
theorem mfX6_229 : pv_mf 6 229 = some (0, mX3_make) := by rfl
set_option maxRecDepth 100000 in
theorem mfX6_232 : pv_mf 6 232 = some (1, mX6_isFedAhead) := by rfl
set_option maxRecDepth 100000 in
theorem mfX6_235 : pv_mf 6 235 = some (0, mX6_setCount) := by rfl
set_option maxRecDepth 100000 in
theorem mfX6_238 : pv_mf 6 238 = some (0, mX5_weightOfSet) := by rfl
set_option maxRecDepth 100000 in
theorem mfX6_241 : pv_mf 6 241 = some (0, mX6_setsOf) := by rfl
set_option maxRecDepth 100000 in
theorem mfX6_244 : pv_mf 6 244 = some (0, mX4_tell) := by rfl
set_option maxRecDepth 100000 in
theorem mfX6_248 : pv_mf 6 248 = some (0, mX6_setsWith) := by rfl
theorem mfX6_251 : pv_mf 6 251 = none := by rfl
set_option maxRecDepth 100000 in
theorem mfX6_254 : pv_mf 6 254 = some (0, mX6_refuseLedger) := by rfl
set_option maxRecDepth 100000 in
theorem mfX6_257 : pv_mf 6 257 = some (0, mX6_kindsFitting) := by rfl
set_option maxRecDepth 100000 in
theorem mfX6_260 : pv_mf 6 260 = some (0, mX6_fitsLedger) := by rfl
set_option maxRecDepth 100000 in
theorem mfX6_263 : pv_mf 6 263 = some (0, mX1_startKinds) := by rfl
set_option maxRecDepth 100000 in
theorem mfX6_266 : pv_mf 6 266 = some (0, mX1_greatestPart) := by rfl
set_option maxRecDepth 100000 in
theorem mfX6_269 : pv_mf 6 269 = some (0, mX1_passKinds) := by rfl
set_option maxRecDepth 100000 in
theorem mfX6_272 : pv_mf 6 272 = some (0, mX5_rulerMeal) := by rfl
set_option maxRecDepth 100000 in
theorem mfX6_275 : pv_mf 6 275 = some (0, mX5_rulerKind) := by rfl
set_option maxRecDepth 100000 in
theorem mfX6_278 : pv_mf 6 278 = some (1, mX0_afterHour) := by rfl
set_option maxRecDepth 100000 in
theorem mfX6_281 : pv_mf 6 281 = some (0, mX6_weightByMice) := by rfl
set_option maxRecDepth 100000 in
theorem mfX6_284 : pv_mf 6 284 = some (0, mX6_shareOf) := by rfl
set_option maxRecDepth 100000 in
theorem mfX6_288 : pv_mf 6 288 = some (1, mX6_wholeOf) := by rfl
set_option maxRecDepth 100000 in
theorem mfX6_296 : pv_mf 6 296 = some (0, mX6_deedByLot) := by rfl
set_option maxRecDepth 100000 in
theorem mfX6_310 : pv_mf 6 310 = some (0, mX3_thereCount) := by rfl
set_option maxRecDepth 100000 in
theorem mfX6_313 : pv_mf 6 313 = some (0, mX5_keptTowns) := by rfl
set_option maxRecDepth 100000 in
theorem mfX6_326 : pv_mf 6 326 = some (0, mX6_count) := by rfl
set_option maxRecDepth 100000 in
theorem mfX6_329 : pv_mf 6 329 = some (0, mX3_mixInto) := by rfl
set_option maxRecDepth 100000 in
theorem mfX6_336 : pv_mf 6 336 = some (0, mX6_holdsPairs) := by rfl
set_option maxRecDepth 100000 in
theorem mfX7_75 : pv_mf 7 75 = some (1, mX7_in) := by rfl
set_option maxRecDepth 100000 in
theorem mfX7_81 : pv_mf 7 81 = some (1, mX7_isRow) := by rfl
set_option maxRecDepth 100000 in
theorem mfX7_85 : pv_mf 7 85 = some (0, mX7_found) := by rfl
set_option maxRecDepth 100000 in
theorem mfX7_89 : pv_mf 7 89 = some (0, mX7_tell) := by rfl
set_option maxRecDepth 100000 in
theorem mfX7_92 : pv_mf 7 92 = some (1, mX7_isText) := by rfl
set_option maxRecDepth 100000 in
theorem mfX7_98 : pv_mf 7 98 = some (0, mX7_byteAt) := by rfl
set_option maxRecDepth 100000 in
theorem mfX7_106 : pv_mf 7 106 = some (0, mX7_takes) := by rfl
set_option maxRecDepth 100000 in
theorem mfX7_113 : pv_mf 7 113 = some (0, mX7_takesWeight) := by rfl
set_option maxRecDepth 100000 in
theorem mfX7_119 : pv_mf 7 119 = some (1, mX7_kindOf) := by rfl
set_option maxRecDepth 100000 in
theorem mfX7_125 : pv_mf 7 125 = some (0, mX7_blanks) := by rfl
set_option maxRecDepth 100000 in
theorem mfX7_129 : pv_mf 7 129 = some (0, mX7_readsDog) := by rfl
set_option maxRecDepth 100000 in
theorem mfX7_132 : pv_mf 7 132 = some (0, mX7_readsCat) := by rfl
set_option maxRecDepth 100000 in
theorem mfX7_135 : pv_mf 7 135 = some (0, mX7_faultOf) := by rfl
set_option maxRecDepth 100000 in
theorem mfX7_147 : pv_mf 7 147 = some (1, mX7_changes) := by rfl
set_option maxRecDepth 100000 in
theorem mfX7_151 : pv_mf 7 151 = some (1, mX7_bound) := by rfl
set_option maxRecDepth 100000 in
theorem mfX7_154 : pv_mf 7 154 = some (0, mX7_after) := by rfl
set_option maxRecDepth 100000 in
theorem mfX7_158 : pv_mf 7 158 = some (0, mX7_afterOf) := by rfl
set_option maxRecDepth 100000 in
theorem mfX7_162 : pv_mf 7 162 = some (1, mX7_meal) := by rfl
set_option maxRecDepth 100000 in
theorem mfX7_165 : pv_mf 7 165 = some (0, mX7_isCat) := by rfl
set_option maxRecDepth 100000 in
theorem mfX7_170 : pv_mf 7 170 = some (0, mX7_told) := by rfl
set_option maxRecDepth 100000 in
theorem mfX7_173 : pv_mf 7 173 = some (1, mX7_isOf) := by rfl
set_option maxRecDepth 100000 in
theorem mfX7_176 : pv_mf 7 176 = some (0, mX7_kindsOf) := by rfl
set_option maxRecDepth 100000 in
theorem mfX7_179 : pv_mf 7 179 = some (1, mX7_copies) := by rfl
set_option maxRecDepth 100000 in
theorem mfX7_183 : pv_mf 7 183 = some (0, mX7_remember) := by rfl
set_option maxRecDepth 100000 in
theorem mfX7_186 : pv_mf 7 186 = some (0, mX7_pound) := by rfl
set_option maxRecDepth 100000 in
theorem mfX7_190 : pv_mf 7 190 = some (0, mX7_hourGoes) := by rfl
set_option maxRecDepth 100000 in
theorem mfX7_193 : pv_mf 7 193 = some (0, mX7_eats) := by rfl
set_option maxRecDepth 100000 in
theorem mfX7_196 : pv_mf 7 196 = some (0, mX7_buys) := by rfl
set_option maxRecDepth 100000 in
theorem mfX7_206 : pv_mf 7 206 = some (0, mX7_answer) := by rfl
set_option maxRecDepth 100000 in
theorem mfX7_211 : pv_mf 7 211 = some (0, mX7_poundIn) := by rfl
set_option maxRecDepth 100000 in
theorem mfX7_214 : pv_mf 7 214 = some (1, mX7_abs) := by rfl
set_option maxRecDepth 100000 in
theorem mfX7_218 : pv_mf 7 218 = some (0, mX7_planned) := by rfl
set_option maxRecDepth 100000 in
theorem mfX7_221 : pv_mf 7 221 = some (1, mX7_has) := by rfl
set_option maxRecDepth 100000 in
theorem mfX7_229 : pv_mf 7 229 = some (0, mX7_refuses) := by rfl
set_option maxRecDepth 100000 in
theorem mfX7_232 : pv_mf 7 232 = some (0, mX7_isSack) := by rfl
set_option maxRecDepth 100000 in
theorem mfX7_235 : pv_mf 7 235 = some (0, mX7_fraction) := by rfl
set_option maxRecDepth 100000 in
theorem mfX7_241 : pv_mf 7 241 = some (0, mX7_isSo) := by rfl
set_option maxRecDepth 100000 in
theorem mfX7_245 : pv_mf 7 245 = some (0, mX7_wrongPairs) := by rfl
set_option maxRecDepth 100000 in
theorem mfX7_248 : pv_mf 7 248 = some (0, mX7_kindsBy) := by rfl
set_option maxRecDepth 100000 in
theorem mfX7_251 : pv_mf 7 251 = some (0, mX7_alike) := by rfl
set_option maxRecDepth 100000 in
theorem mfX7_254 : pv_mf 7 254 = some (0, mX7_beginsStep) := by rfl
set_option maxRecDepth 100000 in
theorem mfX7_257 : pv_mf 7 257 = some (0, mX7_weighsIt) := by rfl
set_option maxRecDepth 100000 in
theorem mfX7_261 : pv_mf 7 261 = some (0, mX7_goesOn) := by rfl
set_option maxRecDepth 100000 in
theorem mfX7_268 : pv_mf 7 268 = some (0, mX7_chances) := by rfl
set_option maxRecDepth 100000 in
theorem mfX7_280 : pv_mf 7 280 = some (0, mX7_plays) := by rfl
set_option maxRecDepth 100000 in
theorem mfX7_285 : pv_mf 7 285 = some (0, mX7_counted) := by rfl
theorem kb_10 : (Int8.ofInt 10).toInt32 = 10 := by decide +kernel
theorem kb_100 : (Int8.ofInt 100).toInt32 = 100 := by decide +kernel
theorem kb_104 : (Int8.ofInt 104).toInt32 = 104 := by decide +kernel
theorem kb_107 : (Int8.ofInt 107).toInt32 = 107 := by decide +kernel
theorem kb_109 : (Int8.ofInt 109).toInt32 = 109 := by decide +kernel
theorem kb_11 : (Int8.ofInt 11).toInt32 = 11 := by decide +kernel
theorem kb_111 : (Int8.ofInt 111).toInt32 = 111 := by decide +kernel
theorem kb_115 : (Int8.ofInt 115).toInt32 = 115 := by decide +kernel
theorem kb_12 : (Int8.ofInt 12).toInt32 = 12 := by decide +kernel
theorem kb_16 : (Int8.ofInt 16).toInt32 = 16 := by decide +kernel
theorem kb_20 : (Int8.ofInt 20).toInt32 = 20 := by decide +kernel
theorem kb_21 : (Int8.ofInt 21).toInt32 = 21 := by decide +kernel
theorem kb_30 : (Int8.ofInt 30).toInt32 = 30 := by decide +kernel
theorem kb_31 : (Int8.ofInt 31).toInt32 = 31 := by decide +kernel
theorem kb_32 : (Int8.ofInt 32).toInt32 = 32 := by decide +kernel
theorem kb_40 : (Int8.ofInt 40).toInt32 = 40 := by decide +kernel
theorem kb_41 : (Int8.ofInt 41).toInt32 = 41 := by decide +kernel
theorem kb_48 : (Int8.ofInt 48).toInt32 = 48 := by decide +kernel
theorem kb_57 : (Int8.ofInt 57).toInt32 = 57 := by decide +kernel
theorem kb_6 : (Int8.ofInt 6).toInt32 = 6 := by decide +kernel
theorem kb_60 : (Int8.ofInt 60).toInt32 = 60 := by decide +kernel
theorem kb_61 : (Int8.ofInt 61).toInt32 = 61 := by decide +kernel
theorem kb_7 : (Int8.ofInt 7).toInt32 = 7 := by decide +kernel
theorem kb_8 : (Int8.ofInt 8).toInt32 = 8 := by decide +kernel
theorem kb_9 : (Int8.ofInt 9).toInt32 = 9 := by decide +kernel
theorem kb_99 : (Int8.ofInt 99).toInt32 = 99 := by decide +kernel
theorem kb_m2 : (Int8.ofInt (-2)).toInt32 = (-2) := by decide +kernel
theorem kb_m3 : (Int8.ofInt (-3)).toInt32 = (-3) := by decide +kernel
theorem kb_m4 : (Int8.ofInt (-4)).toInt32 = (-4) := by decide +kernel
theorem kb_m5 : (Int8.ofInt (-5)).toInt32 = (-5) := by decide +kernel
theorem kb_m6 : (Int8.ofInt (-6)).toInt32 = (-6) := by decide +kernel
theorem kb_m9 : (Int8.ofInt (-9)).toInt32 = (-9) := by decide +kernel
theorem ki_0 : Int32.ofInt 0 = 0 := by decide +kernel
theorem ki_1 : Int32.ofInt 1 = 1 := by decide +kernel
theorem ki_2 : Int32.ofInt 2 = 2 := by decide +kernel
theorem ki_3 : Int32.ofInt 3 = 3 := by decide +kernel
theorem ki_4 : Int32.ofInt 4 = 4 := by decide +kernel
theorem ki_5 : Int32.ofInt 5 = 5 := by decide +kernel
theorem ki_m1 : Int32.ofInt (-1) = (-1) := by decide +kernel
theorem ki_m3 : Int32.ofInt (-3) = (-3) := by decide +kernel
theorem kl_0 : Int64.ofNat ((0 : Fin 2) : Nat) = 0 := by decide +kernel
theorem kl_1 : Int64.ofNat ((1 : Fin 2) : Nat) = 1 := by decide +kernel
theorem ks_1000 : (Int16.ofInt 1000).toInt32 = 1000 := by decide +kernel
theorem ks_1200 : (Int16.ofInt 1200).toInt32 = 1200 := by decide +kernel
theorem ks_200 : (Int16.ofInt 200).toInt32 = 200 := by decide +kernel
theorem ks_201 : (Int16.ofInt 201).toInt32 = 201 := by decide +kernel
theorem ks_400 : (Int16.ofInt 400).toInt32 = 400 := by decide +kernel
theorem ks_410 : (Int16.ofInt 410).toInt32 = 410 := by decide +kernel
theorem ks_411 : (Int16.ofInt 411).toInt32 = 411 := by decide +kernel
theorem ks_m1000 : (Int16.ofInt (-1000)).toInt32 = (-1000) := by decide +kernel
