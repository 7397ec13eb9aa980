/-! printed by wip/gen/steps.py: pool facts -/
set_option maxRecDepth 100000 in
theorem pc_0_9 : ai_look ai_cT 0 9 = some ((1, 0, 2), mX0_isA) := rfl
set_option maxRecDepth 100000 in
theorem pc_1_3 : ai_look ai_cT 1 3 = none := rfl
set_option maxRecDepth 100000 in
theorem pc_1_25 : ai_look ai_cT 1 25 = some ((0, 0, 1), mX1_has) := rfl
set_option maxRecDepth 100000 in
theorem pc_1_37 : ai_look ai_cT 1 37 = some ((0, 0, 1), mX1_named) := rfl
set_option maxRecDepth 100000 in
theorem pc_1_41 : ai_look ai_cT 1 41 = some ((1, 0, 2), mX1_ofOne) := rfl
set_option maxRecDepth 100000 in
theorem pc_1_45 : ai_look ai_cT 1 45 = some ((1, 0, 3), mX1_ofTwo) := rfl
set_option maxRecDepth 100000 in
theorem pc_2_3 : ai_look ai_cT 2 3 = none := rfl
set_option maxRecDepth 100000 in
theorem pc_3_3 : ai_look ai_cT 3 3 = none := rfl
set_option maxRecDepth 100000 in
theorem pc_3_51 : ai_look ai_cT 3 51 = some ((1, 0, 2), mJ9_floorMod_7cf53) := rfl
set_option maxRecDepth 100000 in
theorem pc_3_57 : ai_look ai_cT 3 57 = some ((0, 2, 1), mX3_onWheel) := rfl
set_option maxRecDepth 100000 in
theorem pc_3_61 : ai_look ai_cT 3 61 = some ((1, 0, 2), mJ9_min_7cf53) := rfl
set_option maxRecDepth 100000 in
theorem pc_3_64 : ai_look ai_cT 3 64 = some ((0, 2, 1), mX3_home) := rfl
set_option maxRecDepth 100000 in
theorem pc_3_67 : ai_look ai_cT 3 67 = some ((0, 2, 2), mX3_apart) := rfl
set_option maxRecDepth 100000 in
theorem pc_3_70 : ai_look ai_cT 3 70 = some ((0, 2, 1), mX3_isEnvoy) := rfl
set_option maxRecDepth 100000 in
theorem pc_3_74 : ai_look ai_cT 3 74 = some ((11, 0, 2), mX0_farAtMost) := rfl
set_option maxRecDepth 100000 in
theorem pc_3_79 : ai_look ai_cT 3 79 = some ((11, 0, 1), mX0_mayStay) := rfl
set_option maxRecDepth 100000 in
theorem pc_3_82 : ai_look ai_cT 3 82 = some ((11, 0, 3), mX0_isBound) := rfl
set_option maxRecDepth 100000 in
theorem pc_3_86 : ai_look ai_cT 3 86 = some ((0, 2, 5), mX3_says) := rfl
set_option maxRecDepth 100000 in
theorem pc_3_90 : ai_look ai_cT 3 90 = some ((0, 2, 2), mX3_mayGo) := rfl
set_option maxRecDepth 100000 in
theorem pc_3_94 : ai_look ai_cT 3 94 = some ((0, 2, 0), mX3_mover) := rfl
set_option maxRecDepth 100000 in
theorem pc_3_98 : ai_look ai_cT 3 98 = some ((0, 2, 1), mX3_landing) := rfl
set_option maxRecDepth 100000 in
theorem pc_3_116 : ai_look ai_cT 3 116 = some ((10, 0, 2), mX1_reckon) := rfl
set_option maxRecDepth 100000 in
theorem pc_3_119 : ai_look ai_cT 3 119 = some ((1, 0, 2), mJ9_max_7cf53) := rfl
set_option maxRecDepth 100000 in
theorem pc_4_3 : ai_look ai_cT 4 3 = none := rfl
set_option maxRecDepth 100000 in
theorem pc_4_30 : ai_look ai_cT 4 30 = some ((1, 0, 2), mJ9_max_7cf53) := rfl
set_option maxRecDepth 100000 in
theorem pc_4_36 : ai_look ai_cT 4 36 = some ((1, 0, 2), mJ7_copyOf_59c91) := rfl
set_option maxRecDepth 100000 in
theorem pc_4_42 : ai_look ai_cT 4 42 = none := rfl
set_option maxRecDepth 100000 in
theorem pc_4_47 : ai_look ai_cT 4 47 = some ((12, 0, 2), mX7_init) := rfl
set_option maxRecDepth 100000 in
theorem pc_4_53 : ai_look ai_cT 4 53 = some ((0, 3, 0), mX4_advance) := rfl
set_option maxRecDepth 100000 in
theorem pc_4_61 : ai_look ai_cT 4 61 = some ((0, 3, 1), mX4_readsOr) := rfl
set_option maxRecDepth 100000 in
theorem pc_4_65 : ai_look ai_cT 4 65 = some ((0, 3, 1), mX4_make) := rfl
set_option maxRecDepth 100000 in
theorem pc_4_69 : ai_look ai_cT 4 69 = some ((0, 3, 1), mX4_readsAnd) := rfl
set_option maxRecDepth 100000 in
theorem pc_4_72 : ai_look ai_cT 4 72 = some ((0, 3, 1), mX4_readsNot) := rfl
set_option maxRecDepth 100000 in
theorem pc_4_75 : ai_look ai_cT 4 75 = some ((0, 3, 1), mX4_readsComparison) := rfl
set_option maxRecDepth 100000 in
theorem pc_4_78 : ai_look ai_cT 4 78 = some ((0, 3, 1), mX4_readsSum) := rfl
set_option maxRecDepth 100000 in
theorem pc_4_81 : ai_look ai_cT 4 81 = some ((0, 3, 1), mX4_readsTerm) := rfl
set_option maxRecDepth 100000 in
theorem pc_4_84 : ai_look ai_cT 4 84 = some ((0, 3, 1), mX4_readsOne) := rfl
set_option maxRecDepth 100000 in
theorem pc_4_93 : ai_look ai_cT 4 93 = some ((0, 3, 1), mX4_letterAt) := rfl
set_option maxRecDepth 100000 in
theorem pc_4_97 : ai_look ai_cT 4 97 = some ((1, 0, 1), mX4_isLetter) := rfl
set_option maxRecDepth 100000 in
theorem pc_4_100 : ai_look ai_cT 4 100 = some ((0, 3, 0), mX4_readWord) := rfl
set_option maxRecDepth 100000 in
theorem pc_4_103 : ai_look ai_cT 4 103 = some ((1, 0, 1), mX4_isDigit) := rfl
set_option maxRecDepth 100000 in
theorem pc_4_106 : ai_look ai_cT 4 106 = some ((0, 3, 0), mX4_readNumber) := rfl
set_option maxRecDepth 100000 in
theorem pc_4_109 : ai_look ai_cT 4 109 = some ((1, 0, 1), mX4_signOf) := rfl
set_option maxRecDepth 100000 in
theorem pc_4_114 : ai_look ai_cT 4 114 = some ((0, 3, 1), mX4_spells) := rfl
set_option maxRecDepth 100000 in
theorem pc_4_140 : ai_look ai_cT 4 140 = some ((3, 0, 0), mJ0_length_8abf5) := rfl
set_option maxRecDepth 100000 in
theorem pc_4_146 : ai_look ai_cT 4 146 = some ((3, 0, 1), mJ0_charAt_5068e) := rfl
set_option maxRecDepth 100000 in
theorem pc_5_3 : ai_look ai_cT 5 3 = none := rfl
set_option maxRecDepth 100000 in
theorem pc_5_22 : ai_look ai_cT 5 22 = some ((1, 0, 2), mJ7_fill_53178) := rfl
set_option maxRecDepth 100000 in
theorem pc_5_28 : ai_look ai_cT 5 28 = some ((0, 4, 1), mX5_has) := rfl
set_option maxRecDepth 100000 in
theorem pc_7_1 : ai_look ai_cT 7 1 = none := rfl
set_option maxRecDepth 100000 in
theorem pc_8_1 : ai_look ai_cT 8 1 = none := rfl
set_option maxRecDepth 100000 in
theorem pc_8_9 : ai_look ai_cT 8 9 = some ((12, 0, 0), mX4_init) := rfl
set_option maxRecDepth 100000 in
theorem pc_8_18 : ai_look ai_cT 8 18 = some ((12, 0, 0), mX1_init) := rfl
set_option maxRecDepth 100000 in
theorem pc_8_25 : ai_look ai_cT 8 25 = some ((12, 0, 1), mX3_init) := rfl
set_option maxRecDepth 100000 in
theorem pc_8_40 : ai_look ai_cT 8 40 = some ((12, 0, 0), mX2_init) := rfl
set_option maxRecDepth 100000 in
theorem pc_8_58 : ai_look ai_cT 8 58 = some ((12, 0, 0), mX5_init) := rfl
set_option maxRecDepth 100000 in
theorem pc_8_61 : ai_look ai_cT 8 61 = some ((3, 0, 0), mJ0_length_8abf5) := rfl
set_option maxRecDepth 100000 in
theorem pc_8_67 : ai_look ai_cT 8 67 = some ((3, 0, 1), mJ0_charAt_5068e) := rfl
set_option maxRecDepth 100000 in
theorem pc_8_71 : ai_look ai_cT 8 71 = some ((10, 3, 1), mX4_add) := rfl
set_option maxRecDepth 100000 in
theorem pc_8_75 : ai_look ai_cT 8 75 = some ((10, 3, 0), mX4_readsText) := rfl
set_option maxRecDepth 100000 in
theorem pc_8_79 : ai_look ai_cT 8 79 = some ((10, 3, 0), mX4_madeText) := rfl
set_option maxRecDepth 100000 in
theorem pc_8_83 : ai_look ai_cT 8 83 = some ((10, 0, 1), mX1_add) := rfl
set_option maxRecDepth 100000 in
theorem pc_8_86 : ai_look ai_cT 8 86 = some ((10, 3, 0), mX4_clear) := rfl
set_option maxRecDepth 100000 in
theorem pc_8_111 : ai_look ai_cT 8 111 = some ((10, 2, 1), mX3_isPlace) := rfl
set_option maxRecDepth 100000 in
theorem pc_8_115 : ai_look ai_cT 8 115 = some ((0, 6, 1), mX8_putStone) := rfl
set_option maxRecDepth 100000 in
theorem pc_8_119 : ai_look ai_cT 8 119 = some ((10, 2, 1), mX3_onWheel) := rfl
set_option maxRecDepth 100000 in
theorem pc_8_122 : ai_look ai_cT 8 122 = some ((1, 0, 1), mX8_isByte) := rfl
set_option maxRecDepth 100000 in
theorem pc_8_128 : ai_look ai_cT 8 128 = some ((10, 0, 1), mX1_has) := rfl
set_option maxRecDepth 100000 in
theorem pc_8_131 : ai_look ai_cT 8 131 = some ((10, 2, 1), mX3_isEnvoy) := rfl
set_option maxRecDepth 100000 in
theorem pc_8_134 : ai_look ai_cT 8 134 = some ((10, 2, 5), mX3_says) := rfl
set_option maxRecDepth 100000 in
theorem pc_8_138 : ai_look ai_cT 8 138 = some ((10, 2, 2), mX3_welcome) := rfl
set_option maxRecDepth 100000 in
theorem pc_8_154 : ai_look ai_cT 8 154 = some ((11, 0, 2), mX0_farAtMost) := rfl
set_option maxRecDepth 100000 in
theorem pc_8_164 : ai_look ai_cT 8 164 = some ((10, 2, 1), mX3_home) := rfl
set_option maxRecDepth 100000 in
theorem pc_8_167 : ai_look ai_cT 8 167 = some ((10, 2, 1), mX3_winnerOn) := rfl
set_option maxRecDepth 100000 in
theorem pc_8_170 : ai_look ai_cT 8 170 = some ((10, 2, 0), mX3_mover) := rfl
set_option maxRecDepth 100000 in
theorem pc_8_173 : ai_look ai_cT 8 173 = some ((10, 2, 1), mX3_stepMask) := rfl
set_option maxRecDepth 100000 in
theorem pc_8_176 : ai_look ai_cT 8 176 = some ((1, 0, 1), mX8_isStep) := rfl
set_option maxRecDepth 100000 in
theorem pc_8_179 : ai_look ai_cT 8 179 = some ((1, 0, 1), mX8_isReason) := rfl
set_option maxRecDepth 100000 in
theorem pc_8_194 : ai_look ai_cT 8 194 = some ((10, 2, 2), mX3_mayGo) := rfl
set_option maxRecDepth 100000 in
theorem pc_8_201 : ai_look ai_cT 8 201 = some ((10, 2, 2), mX3_takeTurn) := rfl
set_option maxRecDepth 100000 in
theorem pc_8_207 : ai_look ai_cT 8 207 = some ((0, 6, 1), mX8_isMove) := rfl
set_option maxRecDepth 100000 in
theorem pc_8_210 : ai_look ai_cT 8 210 = some ((0, 6, 2), mX8_wasEverAgainst) := rfl
set_option maxRecDepth 100000 in
theorem pc_8_213 : ai_look ai_cT 8 213 = some ((0, 6, 2), mX8_wasAgainst) := rfl
set_option maxRecDepth 100000 in
theorem pc_8_216 : ai_look ai_cT 8 216 = some ((10, 2, 2), mX3_apart) := rfl
set_option maxRecDepth 100000 in
theorem pc_8_219 : ai_look ai_cT 8 219 = some ((0, 6, 2), mX8_areTwo) := rfl
set_option maxRecDepth 100000 in
theorem pc_8_222 : ai_look ai_cT 8 222 = some ((0, 6, 1), mX8_lastMoveOf) := rfl
set_option maxRecDepth 100000 in
theorem pc_8_225 : ai_look ai_cT 8 225 = some ((1, 0, 1), mX8_isPart) := rfl
set_option maxRecDepth 100000 in
theorem pc_8_230 : ai_look ai_cT 8 230 = some ((1, 0, 3), mX8_lowest) := rfl
set_option maxRecDepth 100000 in
theorem pc_8_234 : ai_look ai_cT 8 234 = some ((1, 0, 1), mJ9_abs_067f4) := rfl
set_option maxRecDepth 100000 in
theorem pc_8_240 : ai_look ai_cT 8 240 = some ((10, 2, 1), mX3_become) := rfl
set_option maxRecDepth 100000 in
theorem pc_8_244 : ai_look ai_cT 8 244 = some ((0, 6, 1), mX8_comesOf) := rfl
set_option maxRecDepth 100000 in
theorem pc_8_253 : ai_look ai_cT 8 253 = some ((1, 0, 2), mJ9_max_7cf53) := rfl
set_option maxRecDepth 100000 in
theorem pc_8_256 : ai_look ai_cT 8 256 = some ((1, 0, 2), mX8_hasStep) := rfl
set_option maxRecDepth 100000 in
theorem pc_8_259 : ai_look ai_cT 8 259 = some ((0, 6, 3), mX8_comesOfMove) := rfl
set_option maxRecDepth 100000 in
theorem pc_8_263 : ai_look ai_cT 8 263 = some ((0, 6, 1), mX8_areEnvoys) := rfl
set_option maxRecDepth 100000 in
theorem pc_8_266 : ai_look ai_cT 8 266 = some ((0, 6, 2), mX8_forcedPlaces) := rfl
set_option maxRecDepth 100000 in
theorem pc_8_269 : ai_look ai_cT 8 269 = some ((0, 6, 2), mX8_forcedBySteps) := rfl
set_option maxRecDepth 100000 in
theorem pc_8_273 : ai_look ai_cT 8 273 = none := rfl
set_option maxRecDepth 100000 in
theorem pc_8_279 : ai_look ai_cT 8 279 = some ((10, 2, 1), mX3_landing) := rfl
set_option maxRecDepth 100000 in
theorem pc_8_282 : ai_look ai_cT 8 282 = some ((1, 0, 1), mJ6_bitCount_0f7a4) := rfl
set_option maxRecDepth 100000 in
theorem pc_8_287 : ai_look ai_cT 8 287 = some ((1, 0, 2), mX8_dealsWith) := rfl
set_option maxRecDepth 100000 in
theorem pc_8_290 : ai_look ai_cT 8 290 = some ((1, 0, 2), mX8_power) := rfl
set_option maxRecDepth 100000 in
theorem pc_8_293 : ai_look ai_cT 8 293 = some ((0, 6, 1), mX8_refusalOfTold) := rfl
set_option maxRecDepth 100000 in
theorem pc_8_296 : ai_look ai_cT 8 296 = some ((0, 6, 1), mX8_judgeNow) := rfl
set_option maxRecDepth 100000 in
theorem pc_8_299 : ai_look ai_cT 8 299 = some ((0, 6, 1), mX8_playTold) := rfl
set_option maxRecDepth 100000 in
theorem pc_8_302 : ai_look ai_cT 8 302 = some ((0, 6, 1), mX8_isSheet) := rfl
set_option maxRecDepth 100000 in
theorem pc_8_305 : ai_look ai_cT 8 305 = some ((10, 4, 0), mX5_isMissing) := rfl
set_option maxRecDepth 100000 in
theorem pc_8_308 : ai_look ai_cT 8 308 = some ((1, 0, 1), mX8_tellsMoves) := rfl
set_option maxRecDepth 100000 in
theorem pc_8_316 : ai_look ai_cT 8 316 = some ((0, 6, 1), mX8_outcome) := rfl
set_option maxRecDepth 100000 in
theorem pc_8_319 : ai_look ai_cT 8 319 = some ((10, 2, 1), mX3_wishersOf) := rfl
set_option maxRecDepth 100000 in
theorem pc_8_322 : ai_look ai_cT 8 322 = some ((1, 0, 2), mJ9_min_7cf53) := rfl
set_option maxRecDepth 100000 in
theorem pc_8_325 : ai_look ai_cT 8 325 = some ((10, 4, 2), mX5_lay) := rfl
set_option maxRecDepth 100000 in
theorem pc_8_328 : ai_look ai_cT 8 328 = some ((10, 4, 2), mX5_put) := rfl
set_option maxRecDepth 100000 in
theorem pc_8_331 : ai_look ai_cT 8 331 = some ((1, 0, 1), mX8_isSeed) := rfl
set_option maxRecDepth 100000 in
theorem pc_8_334 : ai_look ai_cT 8 334 = some ((0, 6, 2), mX8_playByLots) := rfl
set_option maxRecDepth 100000 in
theorem pc_8_342 : ai_look ai_cT 8 342 = some ((1, 0, 2), mX8_stepByLot) := rfl
set_option maxRecDepth 100000 in
theorem pc_8_354 : ai_look ai_cT 8 354 = some ((10, 4, 1), mX5_has) := rfl
set_option maxRecDepth 100000 in
theorem pc_8_358 : ai_look ai_cT 8 358 = some ((10, 4, 2), mX5_hasRow) := rfl
set_option maxRecDepth 100000 in
theorem pc_8_361 : ai_look ai_cT 8 361 = some ((0, 6, 2), mX8_envoy) := rfl
set_option maxRecDepth 100000 in
theorem pc_8_364 : ai_look ai_cT 8 364 = some ((11, 0, 2), mX0_isA) := rfl
set_option maxRecDepth 100000 in
theorem pc_9_1 : ai_look ai_cT 9 1 = none := rfl
set_option maxRecDepth 100000 in
theorem pc_9_71 : ai_look ai_cT 9 71 = some ((0, 7, 0), mX9_text) := rfl
set_option maxRecDepth 100000 in
theorem pc_9_78 : ai_look ai_cT 9 78 = some ((1, 0, 3), mX9_in) := rfl
set_option maxRecDepth 100000 in
theorem pc_9_82 : ai_look ai_cT 9 82 = some ((1, 0, 3), mX9_within) := rfl
set_option maxRecDepth 100000 in
theorem pc_9_101 : ai_look ai_cT 9 101 = some ((0, 7, 1), mX9_isPlace) := rfl
set_option maxRecDepth 100000 in
theorem pc_9_105 : ai_look ai_cT 9 105 = some ((1, 0, 1), mX9_isByte) := rfl
set_option maxRecDepth 100000 in
theorem pc_9_120 : ai_look ai_cT 9 120 = some ((0, 7, 2), mX9_wordFrom) := rfl
set_option maxRecDepth 100000 in
theorem pc_9_130 : ai_look ai_cT 9 130 = some ((1, 0, 1), mX9_rank) := rfl
set_option maxRecDepth 100000 in
theorem pc_9_137 : ai_look ai_cT 9 137 = some ((0, 7, 1), mX9_puts) := rfl
set_option maxRecDepth 100000 in
theorem pc_9_141 : ai_look ai_cT 9 141 = some ((0, 7, 1), mX9_holds) := rfl
set_option maxRecDepth 100000 in
theorem pc_9_144 : ai_look ai_cT 9 144 = some ((0, 7, 1), mX9_unwinds) := rfl
set_option maxRecDepth 100000 in
theorem pc_9_147 : ai_look ai_cT 9 147 = some ((0, 7, 0), mX9_goesNext) := rfl
set_option maxRecDepth 100000 in
theorem pc_9_151 : ai_look ai_cT 9 151 = some ((0, 7, 1), mX9_opensOne) := rfl
set_option maxRecDepth 100000 in
theorem pc_9_154 : ai_look ai_cT 9 154 = some ((0, 7, 0), mX9_signOf) := rfl
set_option maxRecDepth 100000 in
theorem pc_9_157 : ai_look ai_cT 9 157 = some ((0, 7, 1), mX9_between) := rfl
set_option maxRecDepth 100000 in
theorem pc_9_160 : ai_look ai_cT 9 160 = some ((0, 7, 0), mX9_eRead) := rfl
set_option maxRecDepth 100000 in
theorem pc_9_164 : ai_look ai_cT 9 164 = some ((1, 0, 3), mX9_two) := rfl
set_option maxRecDepth 100000 in
theorem pc_9_167 : ai_look ai_cT 9 167 = some ((0, 7, 1), mX9_homeOf) := rfl
set_option maxRecDepth 100000 in
theorem pc_9_170 : ai_look ai_cT 9 170 = some ((0, 7, 2), mX9_apart) := rfl
set_option maxRecDepth 100000 in
theorem pc_9_173 : ai_look ai_cT 9 173 = some ((0, 7, 1), mX9_says) := rfl
set_option maxRecDepth 100000 in
theorem pc_9_176 : ai_look ai_cT 9 176 = some ((0, 7, 1), mX9_isEnvoy) := rfl
set_option maxRecDepth 100000 in
theorem pc_9_179 : ai_look ai_cT 9 179 = some ((0, 7, 5), mX9_asksOf) := rfl
set_option maxRecDepth 100000 in
theorem pc_9_183 : ai_look ai_cT 9 183 = some ((0, 7, 2), mX9_canHope) := rfl
set_option maxRecDepth 100000 in
theorem pc_9_187 : ai_look ai_cT 9 187 = some ((0, 7, 1), mX9_goesOf) := rfl
set_option maxRecDepth 100000 in
theorem pc_9_190 : ai_look ai_cT 9 190 = some ((0, 7, 1), mX9_winnerAt) := rfl
set_option maxRecDepth 100000 in
theorem pc_9_193 : ai_look ai_cT 9 193 = some ((0, 7, 0), mX9_whoNow) := rfl
set_option maxRecDepth 100000 in
theorem pc_9_196 : ai_look ai_cT 9 196 = some ((0, 7, 2), mX9_isBound) := rfl
set_option maxRecDepth 100000 in
theorem pc_9_199 : ai_look ai_cT 9 199 = some ((0, 7, 2), mX9_mayGo) := rfl
set_option maxRecDepth 100000 in
theorem pc_9_202 : ai_look ai_cT 9 202 = some ((0, 7, 1), mX9_stepsOf) := rfl
set_option maxRecDepth 100000 in
theorem pc_9_205 : ai_look ai_cT 9 205 = some ((0, 7, 2), mX9_placeBy) := rfl
set_option maxRecDepth 100000 in
theorem pc_9_208 : ai_look ai_cT 9 208 = some ((0, 7, 2), mX9_goes) := rfl
set_option maxRecDepth 100000 in
theorem pc_9_212 : ai_look ai_cT 9 212 = some ((0, 7, 2), mX9_isAgainst) := rfl
set_option maxRecDepth 100000 in
theorem pc_9_215 : ai_look ai_cT 9 215 = some ((0, 7, 1), mX9_lastOf) := rfl
set_option maxRecDepth 100000 in
theorem pc_9_218 : ai_look ai_cT 9 218 = some ((1, 0, 3), mX9_lowest) := rfl
set_option maxRecDepth 100000 in
theorem pc_9_226 : ai_look ai_cT 9 226 = some ((1, 0, 3), mX9_fraction) := rfl
set_option maxRecDepth 100000 in
theorem pc_9_229 : ai_look ai_cT 9 229 = some ((0, 7, 1), mX9_endOf) := rfl
set_option maxRecDepth 100000 in
theorem pc_9_238 : ai_look ai_cT 9 238 = some ((0, 7, 3), mX9_isForcedFrom) := rfl
set_option maxRecDepth 100000 in
theorem pc_9_241 : ai_look ai_cT 9 241 = some ((0, 7, 1), mX9_areSome) := rfl
set_option maxRecDepth 100000 in
theorem pc_9_244 : ai_look ai_cT 9 244 = some ((0, 7, 3), mX9_isForced) := rfl
set_option maxRecDepth 100000 in
theorem pc_9_247 : ai_look ai_cT 9 247 = some ((1, 0, 1), mX9_onesOf) := rfl
set_option maxRecDepth 100000 in
theorem pc_9_250 : ai_look ai_cT 9 250 = some ((0, 7, 2), mX9_wishing) := rfl
set_option maxRecDepth 100000 in
theorem pc_9_259 : ai_look ai_cT 9 259 = some ((0, 7, 0), mX9_keeps) := rfl
set_option maxRecDepth 100000 in
theorem pc_9_265 : ai_look ai_cT 9 265 = some ((0, 7, 0), mX9_laysBack) := rfl
set_option maxRecDepth 100000 in
theorem pc_9_268 : ai_look ai_cT 9 268 = some ((0, 7, 1), mX9_sheetWrong) := rfl
set_option maxRecDepth 100000 in
theorem pc_9_271 : ai_look ai_cT 9 271 = some ((0, 7, 1), mX9_breaksFirst) := rfl
set_option maxRecDepth 100000 in
theorem pc_9_274 : ai_look ai_cT 9 274 = some ((0, 7, 1), mX9_wishMany) := rfl
set_option maxRecDepth 100000 in
theorem pc_9_277 : ai_look ai_cT 9 277 = some ((0, 7, 1), mX9_toldEnd) := rfl
set_option maxRecDepth 100000 in
theorem pc_9_284 : ai_look ai_cT 9 284 = some ((0, 7, 2), mX9_stepNumber) := rfl
set_option maxRecDepth 100000 in
theorem pc_9_292 : ai_look ai_cT 9 292 = some ((0, 7, 2), mX9_game) := rfl
set_option maxRecDepth 100000 in
theorem pc_9_317 : ai_look ai_cT 9 317 = some ((0, 7, 2), mX9_envoy) := rfl
set_option maxRecDepth 100000 in
theorem pc_9_320 : ai_look ai_cT 9 320 = some ((1, 0, 2), mX9_isUnder) := rfl
set_option maxRecDepth 100000 in
theorem pc_10_335 : ai_look ai_cT 10 335 = some ((3, 0, 0), mJ0_coder_7d493) := rfl
set_option maxRecDepth 100000 in
theorem pc_10_492 : ai_look ai_cT 10 492 = some ((3, 0, 0), mJ0_isLatin1_aae02) := rfl
set_option maxRecDepth 100000 in
theorem pc_10_495 : ai_look ai_cT 10 495 = some ((1, 0, 2), mJ1_charAt_3b067) := rfl
set_option maxRecDepth 100000 in
theorem pc_10_1059 : ai_look ai_cT 10 1059 = some ((1, 0, 3), mJ3_checkIndex_8e157) := rfl
set_option maxRecDepth 100000 in
theorem pc_11_9 : ai_look ai_cT 11 9 = some ((1, 0, 2), mJ0_checkIndex_df160) := rfl
set_option maxRecDepth 100000 in
theorem pc_16_150 : ai_look ai_cT 16 150 = none := rfl
set_option maxRecDepth 100000 in
theorem pc_16_304 : ai_look ai_cT 16 304 = some ((1, 0, 2), mJ9_min_7cf53) := rfl
set_option maxRecDepth 100000 in
theorem pc_16_316 : ai_look ai_cT 16 316 = none := rfl
set_option maxRecDepth 100000 in
theorem pc_24_9 : ai_look ai_cT 24 9 = some ((2, 0, 0), mX8_init) := rfl
set_option maxRecDepth 100000 in
theorem pc_24_12 : ai_look ai_cT 24 12 = some ((2, 0, 0), mX9_init) := rfl
set_option maxRecDepth 100000 in
theorem pc_24_13 : ai_look ai_cT 24 13 = some ((0, 6, 1), mX8_count) := rfl
set_option maxRecDepth 100000 in
theorem pc_24_17 : ai_look ai_cT 24 17 = some ((0, 7, 1), mX9_count) := rfl
set_option maxRecDepth 100000 in
theorem pc_24_18 : ai_look ai_cT 24 18 = some ((0, 6, 2), mX8_set) := rfl
set_option maxRecDepth 100000 in
theorem pc_24_22 : ai_look ai_cT 24 22 = some ((0, 7, 2), mX9_set) := rfl
set_option maxRecDepth 100000 in
theorem pc_24_23 : ai_look ai_cT 24 23 = some ((0, 6, 6), mX8_feed) := rfl
set_option maxRecDepth 100000 in
theorem pc_24_27 : ai_look ai_cT 24 27 = some ((0, 7, 6), mX9_feed) := rfl
set_option maxRecDepth 100000 in
theorem pc_24_28 : ai_look ai_cT 24 28 = some ((0, 6, 0), mX8_text) := rfl
set_option maxRecDepth 100000 in
theorem pc_24_32 : ai_look ai_cT 24 32 = some ((0, 7, 0), mX9_text) := rfl
set_option maxRecDepth 100000 in
theorem pc_24_33 : ai_look ai_cT 24 33 = some ((0, 6, 1), mX8_force) := rfl
set_option maxRecDepth 100000 in
theorem pc_24_36 : ai_look ai_cT 24 36 = some ((0, 7, 1), mX9_force) := rfl
set_option maxRecDepth 100000 in
theorem pc_24_37 : ai_look ai_cT 24 37 = some ((0, 6, 4), mX8_asks) := rfl
set_option maxRecDepth 100000 in
theorem pc_24_41 : ai_look ai_cT 24 41 = some ((0, 7, 4), mX9_asks) := rfl
set_option maxRecDepth 100000 in
theorem pc_24_42 : ai_look ai_cT 24 42 = some ((0, 6, 2), mX8_envoy) := rfl
set_option maxRecDepth 100000 in
theorem pc_24_45 : ai_look ai_cT 24 45 = some ((0, 7, 2), mX9_envoy) := rfl
set_option maxRecDepth 100000 in
theorem pc_24_46 : ai_look ai_cT 24 46 = some ((0, 6, 2), mX8_hope) := rfl
set_option maxRecDepth 100000 in
theorem pc_24_49 : ai_look ai_cT 24 49 = some ((0, 7, 2), mX9_hope) := rfl
set_option maxRecDepth 100000 in
theorem pc_24_50 : ai_look ai_cT 24 50 = some ((0, 6, 2), mX8_told) := rfl
set_option maxRecDepth 100000 in
theorem pc_24_53 : ai_look ai_cT 24 53 = some ((0, 7, 2), mX9_told) := rfl
set_option maxRecDepth 100000 in
theorem pc_24_54 : ai_look ai_cT 24 54 = some ((0, 6, 1), mX8_winner) := rfl
set_option maxRecDepth 100000 in
theorem pc_24_57 : ai_look ai_cT 24 57 = some ((0, 7, 1), mX9_winner) := rfl
set_option maxRecDepth 100000 in
theorem pc_24_58 : ai_look ai_cT 24 58 = some ((0, 6, 0), mX8_next) := rfl
set_option maxRecDepth 100000 in
theorem pc_24_61 : ai_look ai_cT 24 61 = some ((0, 7, 0), mX9_next) := rfl
set_option maxRecDepth 100000 in
theorem pc_24_62 : ai_look ai_cT 24 62 = some ((0, 6, 0), mX8_steps) := rfl
set_option maxRecDepth 100000 in
theorem pc_24_65 : ai_look ai_cT 24 65 = some ((0, 7, 0), mX9_steps) := rfl
set_option maxRecDepth 100000 in
theorem pc_24_66 : ai_look ai_cT 24 66 = some ((0, 6, 2), mX8_move) := rfl
set_option maxRecDepth 100000 in
theorem pc_24_69 : ai_look ai_cT 24 69 = some ((0, 7, 2), mX9_move) := rfl
set_option maxRecDepth 100000 in
theorem pc_24_70 : ai_look ai_cT 24 70 = some ((0, 6, 2), mX8_moved) := rfl
set_option maxRecDepth 100000 in
theorem pc_24_73 : ai_look ai_cT 24 73 = some ((0, 7, 2), mX9_moved) := rfl
set_option maxRecDepth 100000 in
theorem pc_24_74 : ai_look ai_cT 24 74 = some ((0, 6, 2), mX8_broken) := rfl
set_option maxRecDepth 100000 in
theorem pc_24_77 : ai_look ai_cT 24 77 = some ((0, 7, 2), mX9_broken) := rfl
set_option maxRecDepth 100000 in
theorem pc_24_78 : ai_look ai_cT 24 78 = some ((0, 6, 1), mX8_may) := rfl
set_option maxRecDepth 100000 in
theorem pc_24_81 : ai_look ai_cT 24 81 = some ((0, 7, 1), mX9_may) := rfl
set_option maxRecDepth 100000 in
theorem pc_24_82 : ai_look ai_cT 24 82 = some ((0, 6, 2), mX8_call) := rfl
set_option maxRecDepth 100000 in
theorem pc_24_85 : ai_look ai_cT 24 85 = some ((0, 7, 2), mX9_call) := rfl
set_option maxRecDepth 100000 in
theorem pc_24_86 : ai_look ai_cT 24 86 = some ((0, 6, 3), mX8_worth) := rfl
set_option maxRecDepth 100000 in
theorem pc_24_90 : ai_look ai_cT 24 90 = some ((0, 7, 3), mX9_worth) := rfl
set_option maxRecDepth 100000 in
theorem pc_24_91 : ai_look ai_cT 24 91 = some ((0, 6, 2), mX8_best) := rfl
set_option maxRecDepth 100000 in
theorem pc_24_94 : ai_look ai_cT 24 94 = some ((0, 7, 2), mX9_best) := rfl
set_option maxRecDepth 100000 in
theorem pc_24_95 : ai_look ai_cT 24 95 = some ((0, 6, 3), mX8_canForce) := rfl
set_option maxRecDepth 100000 in
theorem pc_24_99 : ai_look ai_cT 24 99 = some ((0, 7, 3), mX9_canForce) := rfl
set_option maxRecDepth 100000 in
theorem pc_24_100 : ai_look ai_cT 24 100 = some ((0, 6, 2), mX8_reach) := rfl
set_option maxRecDepth 100000 in
theorem pc_24_103 : ai_look ai_cT 24 103 = some ((0, 7, 2), mX9_reach) := rfl
set_option maxRecDepth 100000 in
theorem pc_24_104 : ai_look ai_cT 24 104 = some ((0, 6, 2), mX8_loosest) := rfl
set_option maxRecDepth 100000 in
theorem pc_24_107 : ai_look ai_cT 24 107 = some ((0, 7, 2), mX9_loosest) := rfl
set_option maxRecDepth 100000 in
theorem pc_24_108 : ai_look ai_cT 24 108 = some ((0, 6, 2), mX8_deals) := rfl
set_option maxRecDepth 100000 in
theorem pc_24_111 : ai_look ai_cT 24 111 = some ((0, 7, 2), mX9_deals) := rfl
set_option maxRecDepth 100000 in
theorem pc_24_112 : ai_look ai_cT 24 112 = some ((0, 6, 1), mX8_judge) := rfl
set_option maxRecDepth 100000 in
theorem pc_24_115 : ai_look ai_cT 24 115 = some ((0, 7, 1), mX9_judge) := rfl
set_option maxRecDepth 100000 in
theorem pc_24_116 : ai_look ai_cT 24 116 = some ((0, 6, 2), mX8_end) := rfl
set_option maxRecDepth 100000 in
theorem pc_24_119 : ai_look ai_cT 24 119 = some ((0, 7, 2), mX9_end) := rfl
set_option maxRecDepth 100000 in
theorem pc_24_120 : ai_look ai_cT 24 120 = some ((0, 6, 3), mX8_kinds) := rfl
set_option maxRecDepth 100000 in
theorem pc_24_123 : ai_look ai_cT 24 123 = some ((0, 7, 3), mX9_kinds) := rfl
set_option maxRecDepth 100000 in
theorem pc_24_124 : ai_look ai_cT 24 124 = some ((0, 6, 2), mX8_starts) := rfl
set_option maxRecDepth 100000 in
theorem pc_24_127 : ai_look ai_cT 24 127 = some ((0, 7, 2), mX9_starts) := rfl
set_option maxRecDepth 100000 in
theorem pc_24_128 : ai_look ai_cT 24 128 = some ((0, 6, 1), mX8_laws) := rfl
set_option maxRecDepth 100000 in
theorem pc_24_131 : ai_look ai_cT 24 131 = some ((0, 7, 1), mX9_laws) := rfl
set_option maxRecDepth 100000 in
theorem pc_24_132 : ai_look ai_cT 24 132 = some ((0, 6, 2), mX8_film) := rfl
set_option maxRecDepth 100000 in
theorem pc_24_135 : ai_look ai_cT 24 135 = some ((0, 7, 2), mX9_film) := rfl
set_option maxRecDepth 100000 in
theorem pc_24_136 : ai_look ai_cT 24 136 = some ((0, 6, 3), mX8_drawn) := rfl
set_option maxRecDepth 100000 in
theorem pc_24_139 : ai_look ai_cT 24 139 = some ((0, 7, 3), mX9_drawn) := rfl
set_option maxRecDepth 100000 in
theorem pc_24_140 : ai_look ai_cT 24 140 = some ((0, 6, 4), mX8_odds) := rfl
set_option maxRecDepth 100000 in
theorem pc_24_144 : ai_look ai_cT 24 144 = some ((0, 7, 4), mX9_odds) := rfl
set_option maxRecDepth 100000 in
theorem pc_24_145 : ai_look ai_cT 24 145 = some ((0, 6, 0), mX8_image) := rfl
set_option maxRecDepth 100000 in
theorem pc_24_148 : ai_look ai_cT 24 148 = some ((0, 7, 0), mX9_image) := rfl
set_option maxRecDepth 100000 in
theorem pc_24_149 : ai_look ai_cT 24 149 = some ((0, 6, 0), mX8_back) := rfl
set_option maxRecDepth 100000 in
theorem pc_24_152 : ai_look ai_cT 24 152 = some ((0, 7, 0), mX9_back) := rfl
set_option maxRecDepth 100000 in
theorem pc_24_153 : ai_look ai_cT 24 153 = some ((0, 6, 3), mX8_sheet) := rfl
set_option maxRecDepth 100000 in
theorem pc_24_156 : ai_look ai_cT 24 156 = some ((0, 7, 3), mX9_sheet) := rfl
set_option maxRecDepth 100000 in
theorem pc_24_157 : ai_look ai_cT 24 157 = some ((0, 6, 3), mX8_cell) := rfl
set_option maxRecDepth 100000 in
theorem pc_24_160 : ai_look ai_cT 24 160 = some ((0, 7, 3), mX9_cell) := rfl
set_option maxRecDepth 100000 in
theorem pc_24_161 : ai_look ai_cT 24 161 = some ((0, 6, 5), mX8_copy) := rfl
set_option maxRecDepth 100000 in
theorem pc_24_165 : ai_look ai_cT 24 165 = some ((0, 7, 5), mX9_copy) := rfl
set_option maxRecDepth 100000 in
theorem pc_24_166 : ai_look ai_cT 24 166 = some ((0, 6, 4), mX8_envoysBy) := rfl
set_option maxRecDepth 100000 in
theorem pc_24_169 : ai_look ai_cT 24 169 = some ((0, 7, 4), mX9_envoysBy) := rfl
set_option maxRecDepth 100000 in
theorem pc_24_170 : ai_look ai_cT 24 170 = some ((0, 6, 2), mX8_taken) := rfl
set_option maxRecDepth 100000 in
theorem pc_24_173 : ai_look ai_cT 24 173 = some ((0, 7, 2), mX9_taken) := rfl
theorem pf_1_11 : ai_look ai_fT 1 11 = some ((0, 0, 2), (1, 0)) := by decide +kernel
theorem pf_1_17 : ai_look ai_fT 1 17 = some ((0, 2, 2), (1, 0)) := by decide +kernel
theorem pf_1_21 : ai_look ai_fT 1 21 = some ((0, 1, 0), (0, 0)) := by decide +kernel
theorem pf_1_29 : ai_look ai_fT 1 29 = some ((5, 1, 2), (1, 1)) := by decide +kernel
theorem pf_1_32 : ai_look ai_fT 1 32 = some ((5, 0, 2), (1, 1)) := by decide +kernel
theorem pf_1_49 : ai_look ai_fT 1 49 = some ((0, 3, 0), (0, 0)) := by decide +kernel
theorem pf_1_52 : ai_look ai_fT 1 52 = some ((0, 4, 0), (0, 0)) := by decide +kernel
theorem pf_1_55 : ai_look ai_fT 1 55 = some ((0, 5, 0), (0, 0)) := by decide +kernel
theorem pf_1_58 : ai_look ai_fT 1 58 = some ((0, 6, 0), (0, 0)) := by decide +kernel
theorem pf_1_61 : ai_look ai_fT 1 61 = some ((0, 7, 0), (0, 0)) := by decide +kernel
theorem pf_1_64 : ai_look ai_fT 1 64 = some ((0, 8, 0), (0, 0)) := by decide +kernel
theorem pf_2_9 : ai_look ai_fT 2 9 = some ((1, 0, 2), (1, 0)) := by decide +kernel
theorem pf_2_15 : ai_look ai_fT 2 15 = some ((1, 1, 2), (1, 0)) := by decide +kernel
theorem pf_2_18 : ai_look ai_fT 2 18 = some ((1, 2, 2), (1, 0)) := by decide +kernel
theorem pf_2_21 : ai_look ai_fT 2 21 = some ((1, 3, 2), (1, 0)) := by decide +kernel
theorem pf_2_24 : ai_look ai_fT 2 24 = some ((1, 4, 2), (1, 0)) := by decide +kernel
theorem pf_2_27 : ai_look ai_fT 2 27 = some ((1, 5, 2), (1, 0)) := by decide +kernel
theorem pf_3_9 : ai_look ai_fT 3 9 = some ((2, 1, 0), (0, 0)) := by decide +kernel
theorem pf_3_15 : ai_look ai_fT 3 15 = some ((2, 7, 2), (1, 0)) := by decide +kernel
theorem pf_3_19 : ai_look ai_fT 3 19 = some ((2, 8, 2), (1, 0)) := by decide +kernel
theorem pf_3_22 : ai_look ai_fT 3 22 = some ((2, 9, 2), (1, 0)) := by decide +kernel
theorem pf_3_25 : ai_look ai_fT 3 25 = some ((2, 10, 2), (1, 0)) := by decide +kernel
theorem pf_3_28 : ai_look ai_fT 3 28 = some ((2, 11, 2), (1, 0)) := by decide +kernel
theorem pf_3_32 : ai_look ai_fT 3 32 = some ((2, 0, 2), (1, 0)) := by decide +kernel
theorem pf_3_36 : ai_look ai_fT 3 36 = some ((2, 2, 0), (0, 0)) := by decide +kernel
theorem pf_3_39 : ai_look ai_fT 3 39 = some ((2, 3, 0), (0, 0)) := by decide +kernel
theorem pf_3_42 : ai_look ai_fT 3 42 = some ((2, 4, 0), (0, 0)) := by decide +kernel
theorem pf_3_45 : ai_look ai_fT 3 45 = some ((2, 5, 0), (0, 0)) := by decide +kernel
theorem pf_3_48 : ai_look ai_fT 3 48 = some ((2, 6, 0), (0, 0)) := by decide +kernel
theorem pf_3_101 : ai_look ai_fT 3 101 = some ((0, 3, 0), (0, 1)) := by decide +kernel
theorem pf_3_106 : ai_look ai_fT 3 106 = some ((0, 4, 0), (0, 1)) := by decide +kernel
theorem pf_3_109 : ai_look ai_fT 3 109 = some ((0, 5, 0), (0, 1)) := by decide +kernel
theorem pf_3_110 : ai_look ai_fT 3 110 = some ((0, 6, 0), (0, 1)) := by decide +kernel
theorem pf_3_112 : ai_look ai_fT 3 112 = some ((0, 7, 0), (0, 1)) := by decide +kernel
theorem pf_3_115 : ai_look ai_fT 3 115 = some ((0, 8, 0), (0, 1)) := by decide +kernel
theorem pf_4_9 : ai_look ai_fT 4 9 = some ((3, 0, 2), (1, 0)) := by decide +kernel
theorem pf_4_15 : ai_look ai_fT 4 15 = some ((3, 6, 2), (1, 0)) := by decide +kernel
theorem pf_4_18 : ai_look ai_fT 4 18 = some ((3, 8, 2), (1, 0)) := by decide +kernel
theorem pf_4_21 : ai_look ai_fT 4 21 = some ((3, 1, 0), (0, 0)) := by decide +kernel
theorem pf_4_27 : ai_look ai_fT 4 27 = some ((3, 7, 0), (0, 0)) := by decide +kernel
theorem pf_4_50 : ai_look ai_fT 4 50 = some ((3, 3, 0), (0, 0)) := by decide +kernel
theorem pf_4_56 : ai_look ai_fT 4 56 = some ((3, 4, 0), (0, 0)) := by decide +kernel
theorem pf_4_87 : ai_look ai_fT 4 87 = some ((3, 5, 0), (0, 0)) := by decide +kernel
theorem pf_4_90 : ai_look ai_fT 4 90 = some ((3, 2, 0), (0, 0)) := by decide +kernel
theorem pf_5_11 : ai_look ai_fT 5 11 = some ((4, 0, 0), (0, 0)) := by decide +kernel
theorem pf_5_15 : ai_look ai_fT 5 15 = some ((4, 2, 2), (1, 0)) := by decide +kernel
theorem pf_5_19 : ai_look ai_fT 5 19 = some ((4, 1, 0), (0, 0)) := by decide +kernel
theorem pf_7_7 : ai_look ai_fT 7 7 = some ((5, 0, 2), (1, 0)) := by decide +kernel
theorem pf_7_13 : ai_look ai_fT 7 13 = some ((5, 1, 2), (1, 0)) := by decide +kernel
theorem pf_8_10 : ai_look ai_fT 8 10 = some ((6, 0, 2), (1, 0)) := by decide +kernel
theorem pf_8_19 : ai_look ai_fT 8 19 = some ((6, 1, 2), (1, 0)) := by decide +kernel
theorem pf_8_28 : ai_look ai_fT 8 28 = some ((6, 2, 2), (1, 0)) := by decide +kernel
theorem pf_8_32 : ai_look ai_fT 8 32 = some ((6, 3, 2), (1, 0)) := by decide +kernel
theorem pf_8_35 : ai_look ai_fT 8 35 = some ((6, 4, 2), (1, 0)) := by decide +kernel
theorem pf_8_41 : ai_look ai_fT 8 41 = some ((6, 6, 2), (1, 0)) := by decide +kernel
theorem pf_8_47 : ai_look ai_fT 8 47 = some ((6, 7, 2), (1, 0)) := by decide +kernel
theorem pf_8_51 : ai_look ai_fT 8 51 = some ((6, 10, 2), (1, 0)) := by decide +kernel
theorem pf_8_55 : ai_look ai_fT 8 55 = some ((6, 11, 2), (1, 0)) := by decide +kernel
theorem pf_8_89 : ai_look ai_fT 8 89 = some ((2, 5, 0), (0, 1)) := by decide +kernel
theorem pf_8_93 : ai_look ai_fT 8 93 = some ((2, 1, 0), (0, 1)) := by decide +kernel
theorem pf_8_96 : ai_look ai_fT 8 96 = some ((2, 2, 0), (0, 1)) := by decide +kernel
theorem pf_8_99 : ai_look ai_fT 8 99 = some ((2, 3, 0), (0, 1)) := by decide +kernel
theorem pf_8_102 : ai_look ai_fT 8 102 = some ((2, 4, 0), (0, 1)) := by decide +kernel
theorem pf_8_104 : ai_look ai_fT 8 104 = some ((0, 1, 0), (0, 1)) := by decide +kernel
theorem pf_8_107 : ai_look ai_fT 8 107 = some ((2, 6, 0), (0, 1)) := by decide +kernel
theorem pf_8_110 : ai_look ai_fT 8 110 = some ((3, 1, 0), (0, 1)) := by decide +kernel
theorem pf_8_125 : ai_look ai_fT 8 125 = some ((3, 2, 0), (0, 1)) := by decide +kernel
theorem pf_8_142 : ai_look ai_fT 8 142 = some ((2, 9, 2), (1, 1)) := by decide +kernel
theorem pf_8_145 : ai_look ai_fT 8 145 = some ((2, 7, 2), (1, 1)) := by decide +kernel
theorem pf_8_148 : ai_look ai_fT 8 148 = some ((2, 8, 2), (1, 1)) := by decide +kernel
theorem pf_8_151 : ai_look ai_fT 8 151 = some ((2, 10, 2), (1, 1)) := by decide +kernel
theorem pf_8_160 : ai_look ai_fT 8 160 = some ((2, 11, 2), (1, 1)) := by decide +kernel
theorem pf_8_182 : ai_look ai_fT 8 182 = some ((1, 0, 2), (1, 1)) := by decide +kernel
theorem pf_8_185 : ai_look ai_fT 8 185 = some ((1, 1, 2), (1, 1)) := by decide +kernel
theorem pf_8_188 : ai_look ai_fT 8 188 = some ((1, 2, 2), (1, 1)) := by decide +kernel
theorem pf_8_191 : ai_look ai_fT 8 191 = some ((1, 5, 2), (1, 1)) := by decide +kernel
theorem pf_8_198 : ai_look ai_fT 8 198 = some ((1, 3, 2), (1, 1)) := by decide +kernel
theorem pf_8_204 : ai_look ai_fT 8 204 = some ((1, 4, 2), (1, 1)) := by decide +kernel
theorem pf_8_247 : ai_look ai_fT 8 247 = some ((6, 8, 0), (0, 0)) := by decide +kernel
theorem pf_8_250 : ai_look ai_fT 8 250 = some ((6, 9, 0), (0, 0)) := by decide +kernel
theorem pf_8_312 : ai_look ai_fT 8 312 = some ((4, 1, 0), (0, 1)) := by decide +kernel
theorem pf_8_313 : ai_look ai_fT 8 313 = some ((4, 2, 2), (1, 1)) := by decide +kernel
theorem pf_8_350 : ai_look ai_fT 8 350 = some ((6, 5, 1), (0, 0)) := by decide +kernel
theorem pf_8_355 : ai_look ai_fT 8 355 = some ((4, 0, 0), (0, 1)) := by decide +kernel
theorem pf_9_7 : ai_look ai_fT 9 7 = some ((7, 1, 2), (1, 0)) := by decide +kernel
theorem pf_9_13 : ai_look ai_fT 9 13 = some ((7, 2, 2), (1, 0)) := by decide +kernel
theorem pf_9_16 : ai_look ai_fT 9 16 = some ((7, 3, 2), (1, 0)) := by decide +kernel
theorem pf_9_19 : ai_look ai_fT 9 19 = some ((7, 4, 0), (0, 0)) := by decide +kernel
theorem pf_9_23 : ai_look ai_fT 9 23 = some ((7, 8, 2), (1, 0)) := by decide +kernel
theorem pf_9_26 : ai_look ai_fT 9 26 = some ((7, 9, 2), (1, 0)) := by decide +kernel
theorem pf_9_29 : ai_look ai_fT 9 29 = some ((7, 11, 2), (1, 0)) := by decide +kernel
theorem pf_9_32 : ai_look ai_fT 9 32 = some ((7, 12, 2), (1, 0)) := by decide +kernel
theorem pf_9_35 : ai_look ai_fT 9 35 = some ((7, 22, 2), (1, 0)) := by decide +kernel
theorem pf_9_38 : ai_look ai_fT 9 38 = some ((7, 23, 2), (1, 0)) := by decide +kernel
theorem pf_9_41 : ai_look ai_fT 9 41 = some ((7, 24, 2), (1, 0)) := by decide +kernel
theorem pf_9_44 : ai_look ai_fT 9 44 = some ((7, 25, 2), (1, 0)) := by decide +kernel
theorem pf_9_47 : ai_look ai_fT 9 47 = some ((7, 26, 2), (1, 0)) := by decide +kernel
theorem pf_9_50 : ai_look ai_fT 9 50 = some ((7, 27, 2), (1, 0)) := by decide +kernel
theorem pf_9_53 : ai_look ai_fT 9 53 = some ((7, 32, 2), (1, 0)) := by decide +kernel
theorem pf_9_56 : ai_look ai_fT 9 56 = some ((7, 33, 2), (1, 0)) := by decide +kernel
theorem pf_9_59 : ai_look ai_fT 9 59 = some ((7, 37, 2), (1, 0)) := by decide +kernel
theorem pf_9_62 : ai_look ai_fT 9 62 = some ((7, 38, 2), (1, 0)) := by decide +kernel
theorem pf_9_65 : ai_look ai_fT 9 65 = some ((7, 41, 2), (1, 0)) := by decide +kernel
theorem pf_9_68 : ai_look ai_fT 9 68 = some ((7, 10, 0), (0, 0)) := by decide +kernel
theorem pf_9_75 : ai_look ai_fT 9 75 = some ((7, 0, 0), (0, 0)) := by decide +kernel
theorem pf_9_86 : ai_look ai_fT 9 86 = some ((7, 5, 0), (0, 0)) := by decide +kernel
theorem pf_9_89 : ai_look ai_fT 9 89 = some ((7, 6, 0), (0, 0)) := by decide +kernel
theorem pf_9_92 : ai_look ai_fT 9 92 = some ((7, 7, 0), (0, 0)) := by decide +kernel
theorem pf_9_95 : ai_look ai_fT 9 95 = some ((7, 13, 0), (0, 0)) := by decide +kernel
theorem pf_9_98 : ai_look ai_fT 9 98 = some ((7, 14, 0), (0, 0)) := by decide +kernel
theorem pf_9_108 : ai_look ai_fT 9 108 = some ((7, 28, 0), (0, 0)) := by decide +kernel
theorem pf_9_111 : ai_look ai_fT 9 111 = some ((7, 29, 0), (0, 0)) := by decide +kernel
theorem pf_9_114 : ai_look ai_fT 9 114 = some ((7, 30, 0), (0, 0)) := by decide +kernel
theorem pf_9_117 : ai_look ai_fT 9 117 = some ((7, 31, 0), (0, 0)) := by decide +kernel
theorem pf_9_124 : ai_look ai_fT 9 124 = some ((7, 36, 0), (0, 0)) := by decide +kernel
theorem pf_9_127 : ai_look ai_fT 9 127 = some ((7, 34, 0), (0, 0)) := by decide +kernel
theorem pf_9_134 : ai_look ai_fT 9 134 = some ((7, 35, 0), (0, 0)) := by decide +kernel
theorem pf_9_232 : ai_look ai_fT 9 232 = some ((7, 39, 0), (0, 0)) := by decide +kernel
theorem pf_9_235 : ai_look ai_fT 9 235 = some ((7, 40, 0), (0, 0)) := by decide +kernel
theorem pf_9_253 : ai_look ai_fT 9 253 = some ((7, 42, 0), (0, 0)) := by decide +kernel
theorem pf_9_256 : ai_look ai_fT 9 256 = some ((7, 43, 0), (0, 0)) := by decide +kernel
theorem pf_9_262 : ai_look ai_fT 9 262 = some ((7, 44, 0), (0, 0)) := by decide +kernel
theorem pf_9_295 : ai_look ai_fT 9 295 = some ((7, 15, 1), (0, 0)) := by decide +kernel
theorem pf_9_299 : ai_look ai_fT 9 299 = some ((7, 16, 0), (0, 0)) := by decide +kernel
theorem pf_9_302 : ai_look ai_fT 9 302 = some ((7, 17, 0), (0, 0)) := by decide +kernel
theorem pf_9_305 : ai_look ai_fT 9 305 = some ((7, 18, 0), (0, 0)) := by decide +kernel
theorem pf_9_308 : ai_look ai_fT 9 308 = some ((7, 19, 0), (0, 0)) := by decide +kernel
theorem pf_9_311 : ai_look ai_fT 9 311 = some ((7, 20, 0), (0, 0)) := by decide +kernel
theorem pf_9_314 : ai_look ai_fT 9 314 = some ((7, 21, 0), (0, 0)) := by decide +kernel
theorem pf_10_9 : ai_look ai_fT 10 9 = some ((0, 0, 6), (0, 0)) := by decide +kernel
theorem pf_10_15 : ai_look ai_fT 10 15 = some ((0, 0, 5), (0, 0)) := by decide +kernel
theorem pn_1_3 : ai_look ai_nT 1 3 = some 0 := by decide +kernel
theorem pn_2_3 : ai_look ai_nT 2 3 = some 0 := by decide +kernel
theorem pn_3_3 : ai_look ai_nT 3 3 = some 0 := by decide +kernel
theorem pn_4_3 : ai_look ai_nT 4 3 = some 0 := by decide +kernel
theorem pn_4_42 : ai_look ai_nT 4 42 = some 2 := by decide +kernel
theorem pn_5_3 : ai_look ai_nT 5 3 = some 0 := by decide +kernel
theorem pn_7_1 : ai_look ai_nT 7 1 = some 0 := by decide +kernel
theorem pn_8_1 : ai_look ai_nT 8 1 = some 0 := by decide +kernel
theorem pn_8_273 : ai_look ai_nT 8 273 = some 1 := by decide +kernel
theorem pn_9_1 : ai_look ai_nT 9 1 = some 0 := by decide +kernel
theorem pn_16_150 : ai_look ai_nT 16 150 = some 1 := by decide +kernel
theorem pn_16_316 : ai_look ai_nT 16 316 = some 2 := by decide +kernel
