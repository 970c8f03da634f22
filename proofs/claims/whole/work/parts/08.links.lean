set_option maxRecDepth 100000 in
theorem lk_X9_65 : cLV RX9 65 yX7_append cX7_append 4 none 1 := ⟨wm_394, wm_395, wm_396, wm_71, wm_397, by decide, by decide, by decide +kernel⟩
set_option maxRecDepth 100000 in
theorem lk_X9_69 : cLS RX9 69 yX9_within cX9_within 3 (some .boolean) 3 := ⟨wm_402, wm_403, wm_64, wm_404, by decide, by decide, by decide +kernel⟩
set_option maxRecDepth 100000 in
theorem lk_X9_73 : cLV RX9 73 yX8_tellAll cX8_tellAll 2 (some .int) 0 := ⟨wm_409, wm_410, wm_411, wm_70, wm_412, by decide, by decide, by decide +kernel⟩
set_option maxRecDepth 100000 in
theorem lk_X9_86 : cLV RX9 86 yX0_copyFrom cX0_copyFrom 3 none 1 := ⟨wm_536, wm_537, wm_538, wm_65, wm_539, by decide, by decide, by decide +kernel⟩
set_option maxRecDepth 100000 in
theorem lk_X9_115 : cLV RX9 115 yX9_isPlace cX9_isPlace 2 (some .boolean) 1 := ⟨wm_560, wm_562, wm_11, wm_64, wm_563, by decide, by decide, by decide +kernel⟩
set_option maxRecDepth 100000 in
theorem lk_X9_123 : cLV RX9 123 yX9_isCoin cX9_isCoin 2 (some .boolean) 1 := ⟨wm_568, wm_570, wm_12, wm_64, wm_571, by decide, by decide, by decide +kernel⟩
set_option maxRecDepth 100000 in
theorem lk_X9_138 : cLS RX9 138 yX9_asNumber cX9_asNumber 1 (some .int) 1 := ⟨wm_572, wm_521, wm_64, wm_522, by decide, by decide, by decide +kernel⟩
set_option maxRecDepth 100000 in
theorem lk_X9_145 : cLV RX9 145 yX0_isRight cX0_isRight 3 (some .boolean) 1 := ⟨wm_573, wm_574, wm_575, wm_65, wm_576, by decide, by decide, by decide +kernel⟩
set_option maxRecDepth 100000 in
theorem lk_X9_149 : cLV RX9 149 yX9_isCrab cX9_isCrab 2 (some .boolean) 1 := ⟨wm_585, wm_587, wm_13, wm_64, wm_588, by decide, by decide, by decide +kernel⟩
set_option maxRecDepth 100000 in
theorem lk_X9_170 : cLV RX9 170 yX2_holds cX2_holds 1 (some .boolean) 0 := ⟨wm_589, wm_590, wm_591, wm_67, wm_592, by decide, by decide, by decide +kernel⟩
set_option maxRecDepth 100000 in
theorem lk_X9_177 : cLV RX9 177 yX0_countBetween cX0_countBetween 5 (some .int) 2 := ⟨wm_597, wm_598, wm_599, wm_65, wm_600, by decide, by decide, by decide +kernel⟩
set_option maxRecDepth 100000 in
theorem lk_X9_181 : cLV RX9 181 yX0_addCoin cX0_addCoin 4 none 2 := ⟨wm_606, wm_509, wm_510, wm_65, wm_511, by decide, by decide, by decide +kernel⟩
set_option maxRecDepth 100000 in
theorem lk_X9_185 : cLV RX9 185 yX0_layDown cX0_layDown 4 none 2 := ⟨wm_611, wm_612, wm_613, wm_65, wm_614, by decide, by decide, by decide +kernel⟩
set_option maxRecDepth 100000 in
theorem lk_X9_188 : cLV RX9 188 yX0_goSteps cX0_goSteps 3 none 1 := ⟨wm_635, wm_636, wm_637, wm_65, wm_638, by decide, by decide, by decide +kernel⟩
set_option maxRecDepth 100000 in
theorem lk_X9_192 : cLV RX9 192 yX0_countRight cX0_countRight 3 (some .int) 0 := ⟨wm_672, wm_673, wm_674, wm_65, wm_675, by decide, by decide, by decide +kernel⟩
set_option maxRecDepth 100000 in
theorem lk_X9_195 : cLV RX9 195 yX0_growWeeks cX0_growWeeks 3 none 1 := ⟨wm_685, wm_686, wm_687, wm_65, wm_688, by decide, by decide, by decide +kernel⟩
set_option maxRecDepth 100000 in
theorem lk_X9_198 : cLV RX9 198 yX0_greatestClaw cX0_greatestClaw 3 (some .int) 0 := ⟨wm_692, wm_693, wm_694, wm_65, wm_695, by decide, by decide, by decide +kernel⟩
set_option maxRecDepth 100000 in
theorem lk_X9_201 : cLV RX9 201 yX0_stepsUntilSorted cX0_stepsUntilSorted 4 (some .int) 1 := ⟨wm_703, wm_704, wm_705, wm_65, wm_706, by decide, by decide, by decide +kernel⟩
set_option maxRecDepth 100000 in
theorem lk_X9_205 : cLV RX9 205 yX4_tryAll cX4_tryAll 5 none 2 := ⟨wm_715, wm_716, wm_717, wm_69, wm_718, by decide, by decide, by decide +kernel⟩
set_option maxRecDepth 100000 in
theorem lk_X9_216 : cLS RX9 216 yJ6_bitCount_0f7a4 cJ6_bitCount_0f7a4 1 (some .int) 1 := ⟨wm_740, wm_741, wm_80, wm_742, by decide, by decide, by decide +kernel⟩
set_option maxRecDepth 100000 in
theorem lk_X9_221 : cLV RX9 221 yX9_isSortedBy cX9_isSortedBy 2 (some .boolean) 1 := ⟨wm_746, wm_748, wm_22, wm_64, wm_749, by decide, by decide, by decide +kernel⟩
set_option maxRecDepth 100000 in
theorem lk_X9_224 : cLV RX9 224 yX9_stepsWithHole cX9_stepsWithHole 4 (some .int) 3 := ⟨wm_758, wm_760, wm_23, wm_64, wm_761, by decide, by decide, by decide +kernel⟩
set_option maxRecDepth 100000 in
theorem lk_X9_228 : cLS RX9 228 yX9_isWhere cX9_isWhere 1 (some .boolean) 1 := ⟨wm_770, wm_771, wm_64, wm_772, by decide, by decide, by decide +kernel⟩
set_option maxRecDepth 100000 in
theorem lk_X9_231 : cLV RX9 231 yX6_add cX6_add 5 none 4 := ⟨wm_773, wm_774, wm_775, wm_68, wm_776, by decide, by decide, by decide +kernel⟩
set_option maxRecDepth 100000 in
theorem lk_X9_235 : cLV RX9 235 yX9_isSeenWithFalse cX9_isSeenWithFalse 3 (some .boolean) 1 := ⟨wm_785, wm_787, wm_24, wm_64, wm_788, by decide, by decide, by decide +kernel⟩
set_option maxRecDepth 100000 in
theorem lk_X9_238 : cLV RX9 238 yX6_holdFor cX6_holdFor 4 (some .boolean) 1 := ⟨wm_789, wm_790, wm_791, wm_68, wm_792, by decide, by decide, by decide +kernel⟩
set_option maxRecDepth 100000 in
theorem lk_X9_243 : cLV RX9 243 yX0_comeGulls cX0_comeGulls 3 none 1 := ⟨wm_812, wm_813, wm_814, wm_65, wm_815, by decide, by decide, by decide +kernel⟩
set_option maxRecDepth 100000 in
theorem lk_X9_246 : cLV RX9 246 yX0_goStep cX0_goStep 2 none 0 := ⟨wm_816, wm_640, wm_641, wm_65, wm_642, by decide, by decide, by decide +kernel⟩
set_option maxRecDepth 100000 in
theorem lk_X9_249 : cLS RX9 249 yX9_isImage cX9_isImage 1 (some .boolean) 1 := ⟨wm_821, wm_822, wm_64, wm_823, by decide, by decide, by decide +kernel⟩
set_option maxRecDepth 100000 in
theorem lk_X9_252 : cLV RX9 252 yX3_take cX3_take 3 none 2 := ⟨wm_824, wm_825, wm_826, wm_72, wm_827, by decide, by decide, by decide +kernel⟩
set_option maxRecDepth 100000 in
theorem lk_X9_260 : cLV RX9 260 yX6_copyFrom cX6_copyFrom 3 none 1 := ⟨wm_837, wm_830, wm_831, wm_68, wm_832, by decide, by decide, by decide +kernel⟩
set_option maxRecDepth 100000 in
theorem lk_X9_263 : cLS RX9 263 yX9_isSheet cX9_isSheet 1 (some .boolean) 1 := ⟨wm_842, wm_843, wm_64, wm_844, by decide, by decide, by decide +kernel⟩
set_option maxRecDepth 100000 in
theorem lk_X9_266 : cLS RX9 266 yX9_isLane cX9_isLane 1 (some .boolean) 1 := ⟨wm_845, wm_846, wm_64, wm_847, by decide, by decide, by decide +kernel⟩
set_option maxRecDepth 100000 in
theorem lk_X9_269 : cLV RX9 269 yX5_renew cX5_renew 4 none 2 := ⟨wm_848, wm_849, wm_850, wm_73, wm_851, by decide, by decide, by decide +kernel⟩
set_option maxRecDepth 100000 in
theorem lk_X9_272 : cLV RX9 272 yX5_faultAt cX5_faultAt 2 (some .int) 1 := ⟨wm_856, wm_857, wm_858, wm_73, wm_859, by decide, by decide, by decide +kernel⟩
set_option maxRecDepth 100000 in
theorem lk_X9_275 : cLV RX9 275 yX5_put cX5_put 3 none 2 := ⟨wm_861, wm_862, wm_863, wm_73, wm_864, by decide, by decide, by decide +kernel⟩
set_option maxRecDepth 100000 in
theorem lk_X9_278 : cLV RX9 278 yX5_faultAtPair cX5_faultAtPair 4 (some .int) 2 := ⟨wm_870, wm_871, wm_872, wm_73, wm_873, by decide, by decide, by decide +kernel⟩
set_option maxRecDepth 100000 in
theorem lk_X9_284 : cLV RX9 284 yX9_mint cX9_mint 3 (some .int) 2 := ⟨wm_874, wm_603, wm_604, wm_64, wm_605, by decide, by decide, by decide +kernel⟩
set_option maxRecDepth 100000 in
theorem lk_X9_294 : cLV RX9 294 yX0_sendAwayAllBut cX0_sendAwayAllBut 3 none 1 := ⟨wm_750, wm_751, wm_752, wm_65, wm_753, by decide, by decide, by decide +kernel⟩
set_option maxRecDepth 100000 in
theorem lk_X0_54 : cLV RX0 54 yX1_copyFrom cX1_copyFrom 2 none 1 := ⟨wm_540, wm_541, wm_542, wm_66, wm_543, by decide, by decide, by decide +kernel⟩
set_option maxRecDepth 100000 in
theorem lk_X0_58 : cLV RX0 58 yX2_copyFrom cX2_copyFrom 2 none 1 := ⟨wm_544, wm_545, wm_546, wm_67, wm_547, by decide, by decide, by decide +kernel⟩
set_option maxRecDepth 100000 in
theorem lk_X0_86 : cLN RX0 86 yX9_within cX9_within 3 (some .boolean) 3 := ⟨by decide, wm_403, wm_64, wm_404, by decide, by decide, by decide +kernel⟩
set_option maxRecDepth 100000 in
theorem lk_X0_90 : cLV RX0 90 yX0_rightPlace cX0_rightPlace 4 (some .int) 1 := ⟨wm_577, wm_578, wm_579, wm_65, wm_580, by decide, by decide, by decide +kernel⟩
set_option maxRecDepth 100000 in
theorem lk_X0_94 : cLV RX0 94 yX0_isRight cX0_isRight 3 (some .boolean) 1 := ⟨wm_676, wm_574, wm_575, wm_65, wm_576, by decide, by decide, by decide +kernel⟩
set_option maxRecDepth 100000 in
theorem lk_X0_98 : cLS RX0 98 yJ9_min_7cf53 cJ9_min_7cf53 2 (some .int) 2 := ⟨wm_689, wm_690, wm_79, wm_691, by decide, by decide, by decide +kernel⟩
set_option maxRecDepth 100000 in
theorem lk_X0_104 : cLS RX0 104 yJ9_max_7cf53 cJ9_max_7cf53 2 (some .int) 2 := ⟨wm_696, wm_697, wm_79, wm_698, by decide, by decide, by decide +kernel⟩
set_option maxRecDepth 100000 in
theorem lk_X0_107 : cLV RX0 107 yX0_goStep cX0_goStep 2 none 0 := ⟨wm_639, wm_640, wm_641, wm_65, wm_642, by decide, by decide, by decide +kernel⟩
set_option maxRecDepth 100000 in
theorem lk_X0_110 : cLV RX0 110 yX0_act cX0_act 4 none 1 := ⟨wm_643, wm_645, wm_14, wm_65, wm_646, by decide, by decide, by decide +kernel⟩
set_option maxRecDepth 100000 in
theorem lk_X0_114 : cLV RX0 114 yX0_settleFights cX0_settleFights 3 none 0 := ⟨wm_660, wm_662, wm_16, wm_65, wm_663, by decide, by decide, by decide +kernel⟩
set_option maxRecDepth 100000 in
theorem lk_X0_117 : cLV RX0 117 yX0_washAway cX0_washAway 4 none 2 := ⟨wm_668, wm_669, wm_670, wm_65, wm_671, by decide, by decide, by decide +kernel⟩
set_option maxRecDepth 100000 in
theorem lk_X0_121 : cLV RX0 121 yX2_holds cX2_holds 1 (some .boolean) 0 := ⟨wm_647, wm_590, wm_591, wm_67, wm_592, by decide, by decide, by decide +kernel⟩
set_option maxRecDepth 100000 in
theorem lk_X0_125 : cLV RX0 125 yX2_walk cX2_walk 2 none 1 := ⟨wm_648, wm_649, wm_650, wm_67, wm_651, by decide, by decide, by decide +kernel⟩
set_option maxRecDepth 100000 in
theorem lk_X0_128 : cLV RX0 128 yX0_firstFitting cX0_firstFitting 3 (some .int) 1 := ⟨wm_652, wm_654, wm_15, wm_65, wm_655, by decide, by decide, by decide +kernel⟩
set_option maxRecDepth 100000 in
theorem lk_X0_132 : cLV RX0 132 yX2_isFitBy cX2_isFitBy 2 (some .boolean) 1 := ⟨wm_656, wm_657, wm_658, wm_67, wm_659, by decide, by decide, by decide +kernel⟩
set_option maxRecDepth 100000 in
theorem lk_X0_135 : cLV RX0 135 yX0_losesFight cX0_losesFight 5 (some .boolean) 1 := ⟨wm_664, wm_666, wm_17, wm_65, wm_667, by decide, by decide, by decide +kernel⟩
set_option maxRecDepth 100000 in
theorem lk_X0_142 : cLV RX0 142 yX0_openCoins cX0_openCoins 4 (some .int) 0 := ⟨wm_707, wm_709, wm_18, wm_65, wm_710, by decide, by decide, by decide +kernel⟩
set_option maxRecDepth 100000 in
theorem lk_X3_27 : cLV RX3 27 yX0_copyFrom cX0_copyFrom 3 none 1 := ⟨wm_828, wm_537, wm_538, wm_65, wm_539, by decide, by decide, by decide +kernel⟩
set_option maxRecDepth 100000 in
theorem lk_X3_31 : cLV RX3 31 yX6_copyFrom cX6_copyFrom 3 none 1 := ⟨wm_829, wm_830, wm_831, wm_68, wm_832, by decide, by decide, by decide +kernel⟩
set_option maxRecDepth 100000 in
theorem lk_X4_25 : cLV RX4 25 yX0_copyFrom cX0_copyFrom 3 none 1 := ⟨wm_719, wm_537, wm_538, wm_65, wm_539, by decide, by decide, by decide +kernel⟩
set_option maxRecDepth 100000 in
theorem lk_X4_32 : cLS RX4 32 yX4_copyOrder cX4_copyOrder 3 none 2 := ⟨wm_720, wm_721, wm_69, wm_722, by decide, by decide, by decide +kernel⟩
set_option maxRecDepth 100000 in
theorem lk_X4_36 : cLV RX4 36 yX0_stepsUntilSorted cX0_stepsUntilSorted 4 (some .int) 1 := ⟨wm_723, wm_704, wm_705, wm_65, wm_706, by decide, by decide, by decide +kernel⟩
set_option maxRecDepth 100000 in
theorem lk_X4_40 : cLV RX4 40 yX4_note cX4_note 2 none 1 := ⟨wm_724, wm_726, wm_19, wm_69, wm_727, by decide, by decide, by decide +kernel⟩
set_option maxRecDepth 100000 in
theorem lk_X4_47 : cLV RX4 47 yX4_turnToNext cX4_turnToNext 6 (some .boolean) 1 := ⟨wm_728, wm_730, wm_20, wm_69, wm_731, by decide, by decide, by decide +kernel⟩
set_option maxRecDepth 100000 in
theorem lk_X4_51 : cLV RX4 51 yX4_swap cX4_swap 4 none 2 := ⟨wm_732, wm_734, wm_21, wm_69, wm_735, by decide, by decide, by decide +kernel⟩
set_option maxRecDepth 100000 in
theorem lk_X5_22 : cLN RX5 22 yX9_within cX9_within 3 (some .boolean) 3 := ⟨by decide, wm_403, wm_64, wm_404, by decide, by decide, by decide +kernel⟩
set_option maxRecDepth 100000 in
theorem lk_X5_26 : cLV RX5 26 yX5_faultAt cX5_faultAt 2 (some .int) 1 := ⟨wm_865, wm_857, wm_858, wm_73, wm_859, by decide, by decide, by decide +kernel⟩
set_option maxRecDepth 100000 in
theorem lk_X6_29 : cLV RX6 29 yX6_lastStep cX6_lastStep 3 (some .int) 0 := ⟨wm_793, wm_795, wm_25, wm_68, wm_796, by decide, by decide, by decide +kernel⟩
set_option maxRecDepth 100000 in
theorem lk_X6_33 : cLV RX6 33 yX6_holdAt cX6_holdAt 4 (some .boolean) 2 := ⟨wm_798, wm_800, wm_26, wm_68, wm_801, by decide, by decide, by decide +kernel⟩
set_option maxRecDepth 100000 in
theorem lk_X6_37 : cLV RX6 37 yX0_goStep cX0_goStep 2 none 0 := ⟨wm_802, wm_640, wm_641, wm_65, wm_642, by decide, by decide, by decide +kernel⟩
set_option maxRecDepth 100000 in
theorem lk_X6_42 : cLS RX6 42 yJ9_max_7cf53 cJ9_max_7cf53 2 (some .int) 2 := ⟨wm_797, wm_697, wm_79, wm_698, by decide, by decide, by decide +kernel⟩
set_option maxRecDepth 100000 in
theorem lk_X8_25 : cLV RX8 25 yX0_clear cX0_clear 2 none 0 := ⟨wm_413, wm_414, wm_415, wm_65, wm_416, by decide, by decide, by decide +kernel⟩
set_option maxRecDepth 100000 in
theorem lk_X8_45 : cLV RX8 45 yX8_takeToken cX8_takeToken 3 (some .boolean) 0 := ⟨wm_417, wm_419, wm_0, wm_70, wm_420, by decide, by decide, by decide +kernel⟩
set_option maxRecDepth 100000 in
theorem lk_X8_52 : cLV RX8 52 yX8_takeLine cX8_takeLine 1 (some .boolean) 0 := ⟨wm_428, wm_430, wm_2, wm_70, wm_431, by decide, by decide, by decide +kernel⟩
set_option maxRecDepth 100000 in
theorem lk_X8_55 : cLV RX8 55 yX0_hasItsPlaces cX0_hasItsPlaces 2 (some .boolean) 0 := ⟨wm_532, wm_533, wm_534, wm_65, wm_535, by decide, by decide, by decide +kernel⟩
set_option maxRecDepth 100000 in
theorem lk_X8_61 : cLV RX8 61 yX8_refuse cX8_refuse 3 (some .boolean) 2 := ⟨wm_424, wm_426, wm_1, wm_70, wm_427, by decide, by decide, by decide +kernel⟩
set_option maxRecDepth 100000 in
theorem lk_X8_67 : cLV RX8 67 yX8_isName cX8_isName 3 (some .boolean) 1 := ⟨wm_433, wm_435, wm_3, wm_70, wm_436, by decide, by decide, by decide +kernel⟩
set_option maxRecDepth 100000 in
theorem lk_X8_71 : cLV RX8 71 yX8_takePlaces cX8_takePlaces 1 (some .boolean) 0 := ⟨wm_485, wm_487, wm_4, wm_70, wm_488, by decide, by decide, by decide +kernel⟩
set_option maxRecDepth 100000 in
theorem lk_X8_76 : cLV RX8 76 yX8_takeHole cX8_takeHole 2 (some .boolean) 0 := ⟨wm_499, wm_501, wm_7, wm_70, wm_502, by decide, by decide, by decide +kernel⟩
set_option maxRecDepth 100000 in
theorem lk_X8_81 : cLV RX8 81 yX8_takeCoin cX8_takeCoin 3 (some .boolean) 0 := ⟨wm_504, wm_506, wm_8, wm_70, wm_507, by decide, by decide, by decide +kernel⟩
set_option maxRecDepth 100000 in
theorem lk_X8_86 : cLV RX8 86 yX8_takeCrab cX8_takeCrab 4 (some .boolean) 0 := ⟨wm_514, wm_516, wm_9, wm_70, wm_517, by decide, by decide, by decide +kernel⟩
set_option maxRecDepth 100000 in
theorem lk_X8_91 : cLV RX8 91 yX8_takeTide cX8_takeTide 1 (some .boolean) 0 := ⟨wm_528, wm_530, wm_10, wm_70, wm_531, by decide, by decide, by decide +kernel⟩
set_option maxRecDepth 100000 in
theorem lk_X8_97 : cLV RX8 97 yX8_takeNumber cX8_takeNumber 3 (some .boolean) 2 := ⟨wm_489, wm_491, wm_5, wm_70, wm_492, by decide, by decide, by decide +kernel⟩
set_option maxRecDepth 100000 in
theorem lk_X8_105 : cLV RX8 105 yX8_endsLine cX8_endsLine 1 (some .boolean) 0 := ⟨wm_494, wm_496, wm_6, wm_70, wm_497, by decide, by decide, by decide +kernel⟩
set_option maxRecDepth 100000 in
theorem lk_X8_115 : cLV RX8 115 yX0_addCoin cX0_addCoin 4 none 2 := ⟨wm_508, wm_509, wm_510, wm_65, wm_511, by decide, by decide, by decide +kernel⟩
set_option maxRecDepth 100000 in
theorem lk_X8_137 : cLN RX8 137 yX9_asNumber cX9_asNumber 1 (some .int) 1 := ⟨by decide, wm_521, wm_64, wm_522, by decide, by decide, by decide +kernel⟩
set_option maxRecDepth 100000 in
theorem lk_X8_141 : cLV RX8 141 yX0_addCrab cX0_addCrab 6 none 4 := ⟨wm_523, wm_524, wm_525, wm_65, wm_526, by decide, by decide, by decide +kernel⟩
set_option maxRecDepth 100000 in
theorem lk_X8_150 : cLN RX8 150 yX9_within cX9_within 3 (some .boolean) 3 := ⟨by decide, wm_403, wm_64, wm_404, by decide, by decide, by decide +kernel⟩
set_option maxRecDepth 100000 in
theorem lk_X8_167 : cLS RX8 167 yX8_kindOf cX8_kindOf 1 (some .int) 1 := ⟨wm_421, wm_422, wm_70, wm_423, by decide, by decide, by decide +kernel⟩
set_option maxRecDepth 100000 in
theorem lk_X10_65 : cLV RX10 65 yX10_firstDraft cX10_firstDraft 2 none 0 := ⟨wm_889, wm_891, wm_27, wm_74, wm_892, by decide, by decide, by decide +kernel⟩
set_option maxRecDepth 100000 in
theorem lk_X10_68 : cLV RX10 68 yX10_keepDraft cX10_keepDraft 2 none 0 := ⟨wm_893, wm_895, wm_28, wm_74, wm_896, by decide, by decide, by decide +kernel⟩
set_option maxRecDepth 100000 in
theorem lk_X10_95 : cLS RX10 95 yX10_in cX10_in 6 (some .boolean) 3 := ⟨wm_1009, wm_1010, wm_74, wm_1011, by decide, by decide, by decide +kernel⟩
set_option maxRecDepth 100000 in
theorem lk_X10_111 : cLV RX10 111 yX10_look cX10_look 2 (some .int) 1 := ⟨wm_1020, wm_1022, wm_30, wm_74, wm_1023, by decide, by decide, by decide +kernel⟩
set_option maxRecDepth 100000 in
theorem lk_X10_115 : cLV RX10 115 yX10_is cX10_is 5 (some .boolean) 4 := ⟨wm_1040, wm_1042, wm_34, wm_74, wm_1043, by decide, by decide, by decide +kernel⟩
set_option maxRecDepth 100000 in
theorem lk_X10_119 : cLV RX10 119 yX10_ends cX10_ends 4 (some .boolean) 3 := ⟨wm_1044, wm_1046, wm_35, wm_74, wm_1047, by decide, by decide, by decide +kernel⟩
set_option maxRecDepth 100000 in
theorem lk_X10_137 : cLV RX10 137 yX10_needs cX10_needs 3 none 2 := ⟨wm_1028, wm_1030, wm_31, wm_74, wm_1031, by decide, by decide, by decide +kernel⟩
set_option maxRecDepth 100000 in
theorem lk_X10_141 : cLV RX10 141 yX10_looked cX10_looked 3 (some .int) 2 := ⟨wm_1056, wm_1058, wm_38, wm_74, wm_1059, by decide, by decide, by decide +kernel⟩
set_option maxRecDepth 100000 in
theorem lk_X10_145 : cLV RX10 145 yX10_next cX10_next 2 none 0 := ⟨wm_1016, wm_1018, wm_29, wm_74, wm_1019, by decide, by decide, by decide +kernel⟩
set_option maxRecDepth 100000 in
theorem lk_X10_148 : cLV RX10 148 yX10_lookedPlace cX10_lookedPlace 2 (some .int) 0 := ⟨wm_1064, wm_1066, wm_40, wm_74, wm_1067, by decide, by decide, by decide +kernel⟩
set_option maxRecDepth 100000 in
theorem lk_X10_152 : cLV RX10 152 yX10_readNumber cX10_readNumber 4 (some .int) 2 := ⟨wm_1052, wm_1054, wm_37, wm_74, wm_1055, by decide, by decide, by decide +kernel⟩
set_option maxRecDepth 100000 in
theorem lk_X10_155 : cLV RX10 155 yX10_readPlace cX10_readPlace 2 (some .int) 0 := ⟨wm_1072, wm_1074, wm_42, wm_74, wm_1075, by decide, by decide, by decide +kernel⟩
set_option maxRecDepth 100000 in
theorem lk_X10_158 : cLS RX10 158 yX10_flag cX10_flag 1 (some .int) 1 := ⟨wm_1080, wm_1081, wm_74, wm_1082, by decide, by decide, by decide +kernel⟩
set_option maxRecDepth 100000 in
theorem lk_X10_162 : cLV RX10 162 yX10_readHole cX10_readHole 3 none 0 := ⟨wm_1060, wm_1062, wm_39, wm_74, wm_1063, by decide, by decide, by decide +kernel⟩
set_option maxRecDepth 100000 in
theorem lk_X10_165 : cLV RX10 165 yX10_readCoin cX10_readCoin 2 none 0 := ⟨wm_1068, wm_1070, wm_41, wm_74, wm_1071, by decide, by decide, by decide +kernel⟩
set_option maxRecDepth 100000 in
theorem lk_X10_168 : cLV RX10 168 yX10_readCrab cX10_readCrab 3 none 0 := ⟨wm_1076, wm_1078, wm_43, wm_74, wm_1079, by decide, by decide, by decide +kernel⟩
set_option maxRecDepth 100000 in
theorem lk_X10_171 : cLV RX10 171 yX10_lineNow cX10_lineNow 1 (some .int) 0 := ⟨wm_1036, wm_1038, wm_33, wm_74, wm_1039, by decide, by decide, by decide +kernel⟩
set_option maxRecDepth 100000 in
theorem lk_X10_174 : cLV RX10 174 yX10_readLineOf cX10_readLineOf 2 none 1 := ⟨wm_1048, wm_1050, wm_36, wm_74, wm_1051, by decide, by decide, by decide +kernel⟩
set_option maxRecDepth 100000 in
theorem lk_X10_178 : cLV RX10 178 yX10_readLine cX10_readLine 2 none 0 := ⟨wm_1032, wm_1034, wm_32, wm_74, wm_1035, by decide, by decide, by decide +kernel⟩
set_option maxRecDepth 100000 in
theorem lk_X10_187 : cLV RX10 187 yX10_doesFit cX10_doesFit 3 (some .boolean) 2 := ⟨wm_1186, wm_1188, wm_56, wm_74, wm_1189, by decide, by decide, by decide +kernel⟩
set_option maxRecDepth 100000 in
theorem lk_X10_191 : cLV RX10 191 yX10_heldBy cX10_heldBy 4 (some .int) 1 := ⟨wm_1127, wm_1129, wm_50, wm_74, wm_1130, by decide, by decide, by decide +kernel⟩
set_option maxRecDepth 100000 in
theorem lk_X10_194 : cLV RX10 194 yX10_lyingFor cX10_lyingFor 4 (some .int) 1 := ⟨wm_1182, wm_1184, wm_55, wm_74, wm_1185, by decide, by decide, by decide +kernel⟩
set_option maxRecDepth 100000 in
theorem lk_X10_197 : cLV RX10 197 yX10_does cX10_does 5 none 1 := ⟨wm_1178, wm_1180, wm_54, wm_74, wm_1181, by decide, by decide, by decide +kernel⟩
set_option maxRecDepth 100000 in
theorem lk_X10_200 : cLV RX10 200 yX10_fights cX10_fights 8 none 0 := ⟨wm_1190, wm_1192, wm_57, wm_74, wm_1193, by decide, by decide, by decide +kernel⟩
set_option maxRecDepth 100000 in
theorem lk_X10_203 : cLV RX10 203 yX10_rightPlace cX10_rightPlace 5 (some .int) 1 := ⟨wm_1115, wm_1117, wm_48, wm_74, wm_1118, by decide, by decide, by decide +kernel⟩
set_option maxRecDepth 100000 in
theorem lk_X10_206 : cLV RX10 206 yX10_isRight cX10_isRight 3 (some .boolean) 1 := ⟨wm_1111, wm_1113, wm_47, wm_74, wm_1114, by decide, by decide, by decide +kernel⟩
set_option maxRecDepth 100000 in
theorem lk_X10_210 : cLV RX10 210 yX10_rightMany cX10_rightMany 3 (some .int) 0 := ⟨wm_1194, wm_1196, wm_58, wm_74, wm_1197, by decide, by decide, by decide +kernel⟩
set_option maxRecDepth 100000 in
theorem lk_X10_213 : cLV RX10 213 yX10_steps cX10_steps 3 none 0 := ⟨wm_1174, wm_1176, wm_53, wm_74, wm_1177, by decide, by decide, by decide +kernel⟩
set_option maxRecDepth 100000 in
theorem lk_X10_216 : cLV RX10 216 yX10_isPlace cX10_isPlace 2 (some .boolean) 1 := ⟨wm_1095, wm_1097, wm_44, wm_74, wm_1098, by decide, by decide, by decide +kernel⟩
set_option maxRecDepth 100000 in
theorem lk_X10_219 : cLV RX10 219 yX10_isCoin cX10_isCoin 2 (some .boolean) 1 := ⟨wm_1103, wm_1105, wm_45, wm_74, wm_1106, by decide, by decide, by decide +kernel⟩
set_option maxRecDepth 100000 in
theorem lk_X10_222 : cLV RX10 222 yX10_starts cX10_starts 2 none 0 := ⟨wm_1107, wm_1109, wm_46, wm_74, wm_1110, by decide, by decide, by decide +kernel⟩
set_option maxRecDepth 100000 in
theorem lk_X10_225 : cLV RX10 225 yX10_isCrab cX10_isCrab 2 (some .boolean) 1 := ⟨wm_1123, wm_1125, wm_49, wm_74, wm_1126, by decide, by decide, by decide +kernel⟩
set_option maxRecDepth 100000 in
theorem lk_X10_230 : cLV RX10 230 yX10_manyAt cX10_manyAt 4 (some .int) 1 := ⟨wm_1136, wm_1138, wm_51, wm_74, wm_1139, by decide, by decide, by decide +kernel⟩
set_option maxRecDepth 100000 in
theorem lk_X10_233 : cLV RX10 233 yX10_becomes cX10_becomes 4 (some .int) 2 := ⟨wm_1140, wm_1142, wm_52, wm_74, wm_1143, by decide, by decide, by decide +kernel⟩
set_option maxRecDepth 100000 in
theorem lk_X10_240 : cLV RX10 240 yX10_sortedBehind cX10_sortedBehind 2 (some .int) 0 := ⟨wm_1210, wm_1212, wm_59, wm_74, wm_1213, by decide, by decide, by decide +kernel⟩
set_option maxRecDepth 100000 in
theorem lk_X10_247 : cLV RX10 247 yX10_nextOrder cX10_nextOrder 6 (some .boolean) 0 := ⟨wm_1220, wm_1222, wm_60, wm_74, wm_1223, by decide, by decide, by decide +kernel⟩
set_option maxRecDepth 100000 in
theorem lk_X10_257 : cLS RX10 257 yX10_isWhere cX10_isWhere 1 (some .boolean) 1 := ⟨wm_1241, wm_1242, wm_74, wm_1243, by decide, by decide, by decide +kernel⟩
set_option maxRecDepth 100000 in
theorem lk_X10_262 : cLV RX10 262 yX10_isSo cX10_isSo 5 (some .boolean) 0 := ⟨wm_1255, wm_1257, wm_61, wm_74, wm_1258, by decide, by decide, by decide +kernel⟩
set_option maxRecDepth 100000 in
theorem lk_X10_266 : cLV RX10 266 yX10_copies cX10_copies 4 none 2 := ⟨wm_1272, wm_1274, wm_62, wm_74, wm_1275, by decide, by decide, by decide +kernel⟩
set_option maxRecDepth 100000 in
theorem lk_X10_272 : cLS RX10 272 yX10_isSheet cX10_isSheet 2 (some .boolean) 2 := ⟨wm_1284, wm_1285, wm_74, wm_1286, by decide, by decide, by decide +kernel⟩
set_option maxRecDepth 100000 in
theorem lk_X10_275 : cLV RX10 275 yX10_mint cX10_mint 4 (some .int) 2 := ⟨wm_1296, wm_1145, wm_1146, wm_74, wm_1147, by decide, by decide, by decide +kernel⟩
