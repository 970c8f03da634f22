set_option maxRecDepth 100000 in
theorem wm_0 : (.selects RX8 yX8_takeToken yX8_takeToken : Cond) ∈ WS := mw 0 rfl rfl
set_option maxRecDepth 100000 in
theorem wm_1 : (.selects RX8 yX8_refuse yX8_refuse : Cond) ∈ WS := mw 1 rfl rfl
set_option maxRecDepth 100000 in
theorem wm_2 : (.selects RX8 yX8_takeLine yX8_takeLine : Cond) ∈ WS := mw 2 rfl rfl
set_option maxRecDepth 100000 in
theorem wm_3 : (.selects RX8 yX8_isName yX8_isName : Cond) ∈ WS := mw 3 rfl rfl
set_option maxRecDepth 100000 in
theorem wm_4 : (.selects RX8 yX8_takePlaces yX8_takePlaces : Cond) ∈ WS := mw 4 rfl rfl
set_option maxRecDepth 100000 in
theorem wm_5 : (.selects RX8 yX8_takeNumber yX8_takeNumber : Cond) ∈ WS := mw 5 rfl rfl
set_option maxRecDepth 100000 in
theorem wm_6 : (.selects RX8 yX8_endsLine yX8_endsLine : Cond) ∈ WS := mw 6 rfl rfl
set_option maxRecDepth 100000 in
theorem wm_7 : (.selects RX8 yX8_takeHole yX8_takeHole : Cond) ∈ WS := mw 7 rfl rfl
set_option maxRecDepth 100000 in
theorem wm_8 : (.selects RX8 yX8_takeCoin yX8_takeCoin : Cond) ∈ WS := mw 8 rfl rfl
set_option maxRecDepth 100000 in
theorem wm_9 : (.selects RX8 yX8_takeCrab yX8_takeCrab : Cond) ∈ WS := mw 9 rfl rfl
set_option maxRecDepth 100000 in
theorem wm_10 : (.selects RX8 yX8_takeTide yX8_takeTide : Cond) ∈ WS := mw 10 rfl rfl
set_option maxRecDepth 100000 in
theorem wm_11 : (.selects RX9 yX9_isPlace yX9_isPlace : Cond) ∈ WS := mw 11 rfl rfl
set_option maxRecDepth 100000 in
theorem wm_12 : (.selects RX9 yX9_isCoin yX9_isCoin : Cond) ∈ WS := mw 12 rfl rfl
set_option maxRecDepth 100000 in
theorem wm_13 : (.selects RX9 yX9_isCrab yX9_isCrab : Cond) ∈ WS := mw 13 rfl rfl
set_option maxRecDepth 100000 in
theorem wm_14 : (.selects RX0 yX0_act yX0_act : Cond) ∈ WS := mw 14 rfl rfl
set_option maxRecDepth 100000 in
theorem wm_15 : (.selects RX0 yX0_firstFitting yX0_firstFitting : Cond) ∈ WS := mw 15 rfl rfl
set_option maxRecDepth 100000 in
theorem wm_16 : (.selects RX0 yX0_settleFights yX0_settleFights : Cond) ∈ WS := mw 16 rfl rfl
set_option maxRecDepth 100000 in
theorem wm_17 : (.selects RX0 yX0_losesFight yX0_losesFight : Cond) ∈ WS := mw 17 rfl rfl
set_option maxRecDepth 100000 in
theorem wm_18 : (.selects RX0 yX0_openCoins yX0_openCoins : Cond) ∈ WS := mw 18 rfl rfl
set_option maxRecDepth 100000 in
theorem wm_19 : (.selects RX4 yX4_note yX4_note : Cond) ∈ WS := mw 19 rfl rfl
set_option maxRecDepth 100000 in
theorem wm_20 : (.selects RX4 yX4_turnToNext yX4_turnToNext : Cond) ∈ WS := mw 20 rfl rfl
set_option maxRecDepth 100000 in
theorem wm_21 : (.selects RX4 yX4_swap yX4_swap : Cond) ∈ WS := mw 21 rfl rfl
set_option maxRecDepth 100000 in
theorem wm_22 : (.selects RX9 yX9_isSortedBy yX9_isSortedBy : Cond) ∈ WS := mw 22 rfl rfl
set_option maxRecDepth 100000 in
theorem wm_23 : (.selects RX9 yX9_stepsWithHole yX9_stepsWithHole : Cond) ∈ WS := mw 23 rfl rfl
set_option maxRecDepth 100000 in
theorem wm_24 : (.selects RX9 yX9_isSeenWithFalse yX9_isSeenWithFalse : Cond) ∈ WS := mw 24 rfl rfl
set_option maxRecDepth 100000 in
theorem wm_25 : (.selects RX6 yX6_lastStep yX6_lastStep : Cond) ∈ WS := mw 25 rfl rfl
set_option maxRecDepth 100000 in
theorem wm_26 : (.selects RX6 yX6_holdAt yX6_holdAt : Cond) ∈ WS := mw 26 rfl rfl
set_option maxRecDepth 100000 in
theorem wm_27 : (.selects RX10 yX10_firstDraft yX10_firstDraft : Cond) ∈ WS := mw 27 rfl rfl
set_option maxRecDepth 100000 in
theorem wm_28 : (.selects RX10 yX10_keepDraft yX10_keepDraft : Cond) ∈ WS := mw 28 rfl rfl
set_option maxRecDepth 100000 in
theorem wm_29 : (.selects RX10 yX10_next yX10_next : Cond) ∈ WS := mw 29 rfl rfl
set_option maxRecDepth 100000 in
theorem wm_30 : (.selects RX10 yX10_look yX10_look : Cond) ∈ WS := mw 30 rfl rfl
set_option maxRecDepth 100000 in
theorem wm_31 : (.selects RX10 yX10_needs yX10_needs : Cond) ∈ WS := mw 31 rfl rfl
set_option maxRecDepth 100000 in
theorem wm_32 : (.selects RX10 yX10_readLine yX10_readLine : Cond) ∈ WS := mw 32 rfl rfl
set_option maxRecDepth 100000 in
theorem wm_33 : (.selects RX10 yX10_lineNow yX10_lineNow : Cond) ∈ WS := mw 33 rfl rfl
set_option maxRecDepth 100000 in
theorem wm_34 : (.selects RX10 yX10_is yX10_is : Cond) ∈ WS := mw 34 rfl rfl
set_option maxRecDepth 100000 in
theorem wm_35 : (.selects RX10 yX10_ends yX10_ends : Cond) ∈ WS := mw 35 rfl rfl
set_option maxRecDepth 100000 in
theorem wm_36 : (.selects RX10 yX10_readLineOf yX10_readLineOf : Cond) ∈ WS := mw 36 rfl rfl
set_option maxRecDepth 100000 in
theorem wm_37 : (.selects RX10 yX10_readNumber yX10_readNumber : Cond) ∈ WS := mw 37 rfl rfl
set_option maxRecDepth 100000 in
theorem wm_38 : (.selects RX10 yX10_looked yX10_looked : Cond) ∈ WS := mw 38 rfl rfl
set_option maxRecDepth 100000 in
theorem wm_39 : (.selects RX10 yX10_readHole yX10_readHole : Cond) ∈ WS := mw 39 rfl rfl
set_option maxRecDepth 100000 in
theorem wm_40 : (.selects RX10 yX10_lookedPlace yX10_lookedPlace : Cond) ∈ WS := mw 40 rfl rfl
set_option maxRecDepth 100000 in
theorem wm_41 : (.selects RX10 yX10_readCoin yX10_readCoin : Cond) ∈ WS := mw 41 rfl rfl
set_option maxRecDepth 100000 in
theorem wm_42 : (.selects RX10 yX10_readPlace yX10_readPlace : Cond) ∈ WS := mw 42 rfl rfl
set_option maxRecDepth 100000 in
theorem wm_43 : (.selects RX10 yX10_readCrab yX10_readCrab : Cond) ∈ WS := mw 43 rfl rfl
set_option maxRecDepth 100000 in
theorem wm_44 : (.selects RX10 yX10_isPlace yX10_isPlace : Cond) ∈ WS := mw 44 rfl rfl
set_option maxRecDepth 100000 in
theorem wm_45 : (.selects RX10 yX10_isCoin yX10_isCoin : Cond) ∈ WS := mw 45 rfl rfl
set_option maxRecDepth 100000 in
theorem wm_46 : (.selects RX10 yX10_starts yX10_starts : Cond) ∈ WS := mw 46 rfl rfl
set_option maxRecDepth 100000 in
theorem wm_47 : (.selects RX10 yX10_isRight yX10_isRight : Cond) ∈ WS := mw 47 rfl rfl
set_option maxRecDepth 100000 in
theorem wm_48 : (.selects RX10 yX10_rightPlace yX10_rightPlace : Cond) ∈ WS := mw 48 rfl rfl
set_option maxRecDepth 100000 in
theorem wm_49 : (.selects RX10 yX10_isCrab yX10_isCrab : Cond) ∈ WS := mw 49 rfl rfl
set_option maxRecDepth 100000 in
theorem wm_50 : (.selects RX10 yX10_heldBy yX10_heldBy : Cond) ∈ WS := mw 50 rfl rfl
set_option maxRecDepth 100000 in
theorem wm_51 : (.selects RX10 yX10_manyAt yX10_manyAt : Cond) ∈ WS := mw 51 rfl rfl
set_option maxRecDepth 100000 in
theorem wm_52 : (.selects RX10 yX10_becomes yX10_becomes : Cond) ∈ WS := mw 52 rfl rfl
set_option maxRecDepth 100000 in
theorem wm_53 : (.selects RX10 yX10_steps yX10_steps : Cond) ∈ WS := mw 53 rfl rfl
set_option maxRecDepth 100000 in
theorem wm_54 : (.selects RX10 yX10_does yX10_does : Cond) ∈ WS := mw 54 rfl rfl
set_option maxRecDepth 100000 in
theorem wm_55 : (.selects RX10 yX10_lyingFor yX10_lyingFor : Cond) ∈ WS := mw 55 rfl rfl
set_option maxRecDepth 100000 in
theorem wm_56 : (.selects RX10 yX10_doesFit yX10_doesFit : Cond) ∈ WS := mw 56 rfl rfl
set_option maxRecDepth 100000 in
theorem wm_57 : (.selects RX10 yX10_fights yX10_fights : Cond) ∈ WS := mw 57 rfl rfl
set_option maxRecDepth 100000 in
theorem wm_58 : (.selects RX10 yX10_rightMany yX10_rightMany : Cond) ∈ WS := mw 58 rfl rfl
set_option maxRecDepth 100000 in
theorem wm_59 : (.selects RX10 yX10_sortedBehind yX10_sortedBehind : Cond) ∈ WS := mw 59 rfl rfl
set_option maxRecDepth 100000 in
theorem wm_60 : (.selects RX10 yX10_nextOrder yX10_nextOrder : Cond) ∈ WS := mw 60 rfl rfl
set_option maxRecDepth 100000 in
theorem wm_61 : (.selects RX10 yX10_isSo yX10_isSo : Cond) ∈ WS := mw 61 rfl rfl
set_option maxRecDepth 100000 in
theorem wm_62 : (.selects RX10 yX10_copies yX10_copies : Cond) ∈ WS := mw 62 rfl rfl
set_option maxRecDepth 100000 in
theorem wm_63 : (.initialized RL : Cond) ∈ WS := mw 63 rfl rfl
set_option maxRecDepth 100000 in
theorem wm_64 : (.initialized RX9 : Cond) ∈ WS := mw 64 rfl rfl
set_option maxRecDepth 100000 in
theorem wm_65 : (.initialized RX0 : Cond) ∈ WS := mw 65 rfl rfl
set_option maxRecDepth 100000 in
theorem wm_66 : (.initialized RX1 : Cond) ∈ WS := mw 66 rfl rfl
set_option maxRecDepth 100000 in
theorem wm_67 : (.initialized RX2 : Cond) ∈ WS := mw 67 rfl rfl
set_option maxRecDepth 100000 in
theorem wm_68 : (.initialized RX6 : Cond) ∈ WS := mw 68 rfl rfl
set_option maxRecDepth 100000 in
theorem wm_69 : (.initialized RX4 : Cond) ∈ WS := mw 69 rfl rfl
set_option maxRecDepth 100000 in
theorem wm_70 : (.initialized RX8 : Cond) ∈ WS := mw 70 rfl rfl
set_option maxRecDepth 100000 in
theorem wm_71 : (.initialized RX7 : Cond) ∈ WS := mw 71 rfl rfl
set_option maxRecDepth 100000 in
theorem wm_72 : (.initialized RX3 : Cond) ∈ WS := mw 72 rfl rfl
set_option maxRecDepth 100000 in
theorem wm_73 : (.initialized RX5 : Cond) ∈ WS := mw 73 rfl rfl
set_option maxRecDepth 100000 in
theorem wm_74 : (.initialized RX10 : Cond) ∈ WS := mw 74 rfl rfl
set_option maxRecDepth 100000 in
theorem wm_75 : (.initialized RJ0 : Cond) ∈ WS := mw 75 rfl rfl
set_option maxRecDepth 100000 in
theorem wm_76 : (.initialized RJ1 : Cond) ∈ WS := mw 76 rfl rfl
set_option maxRecDepth 100000 in
theorem wm_77 : (.initialized RJ3 : Cond) ∈ WS := mw 77 rfl rfl
set_option maxRecDepth 100000 in
theorem wm_78 : (.initialized RJ2 : Cond) ∈ WS := mw 78 rfl rfl
set_option maxRecDepth 100000 in
theorem wm_79 : (.initialized RJ9 : Cond) ∈ WS := mw 79 rfl rfl
set_option maxRecDepth 100000 in
theorem wm_80 : (.initialized RJ6 : Cond) ∈ WS := mw 80 rfl rfl
set_option maxRecDepth 100000 in
theorem wm_83 : (.methodLink RL 9 yX9_init : Cond) ∈ WS := mw 83 rfl rfl
set_option maxRecDepth 100000 in
theorem wm_84 : (.instanceMethod yX9_init : Cond) ∈ WS := mw 84 rfl rfl
set_option maxRecDepth 100000 in
theorem wm_85 : (.code yX9_init cX9_init 2 none : Cond) ∈ WS := mw 85 rfl rfl
set_option maxRecDepth 100000 in
theorem wm_86 : (.methodLink RX9 1 objectInit : Cond) ∈ WS := mw 86 rfl rfl
set_option maxRecDepth 100000 in
theorem wm_87 : (.instanceMethod objectInit : Cond) ∈ WS := mw 87 rfl rfl
set_option maxRecDepth 100000 in
theorem wm_91 : (.methodLink RX9 9 yX0_init : Cond) ∈ WS := mw 91 rfl rfl
set_option maxRecDepth 100000 in
theorem wm_92 : (.instanceMethod yX0_init : Cond) ∈ WS := mw 92 rfl rfl
set_option maxRecDepth 100000 in
theorem wm_93 : (.code yX0_init cX0_init 2 none : Cond) ∈ WS := mw 93 rfl rfl
set_option maxRecDepth 100000 in
theorem wm_94 : (.methodLink RX0 3 objectInit : Cond) ∈ WS := mw 94 rfl rfl
set_option maxRecDepth 100000 in
theorem wm_101 : (.instanceMethod yX1_init : Cond) ∈ WS := mw 101 rfl rfl
set_option maxRecDepth 100000 in
theorem wm_102 : (.code yX1_init cX1_init 1 none : Cond) ∈ WS := mw 102 rfl rfl
set_option maxRecDepth 100000 in
theorem wm_103 : (.methodLink RX1 1 objectInit : Cond) ∈ WS := mw 103 rfl rfl
set_option maxRecDepth 100000 in
theorem wm_104 : (.fieldLink RX1 7 RX1 "size" "I" : Cond) ∈ WS := mw 104 rfl rfl
set_option maxRecDepth 100000 in
theorem wm_105 : (.fieldLink RX2 33 RX1 "size" "I" : Cond) ∈ WS := mw 105 rfl rfl
set_option maxRecDepth 100000 in
theorem wm_106 : (.fieldLink RX0 61 RX1 "size" "I" : Cond) ∈ WS := mw 106 rfl rfl
set_option maxRecDepth 100000 in
theorem wm_107 : (.fieldLink RX9 130 RX1 "size" "I" : Cond) ∈ WS := mw 107 rfl rfl
set_option maxRecDepth 100000 in
theorem wm_108 : (.fieldLink RX1 13 RX1 "isFalse" "Z" : Cond) ∈ WS := mw 108 rfl rfl
set_option maxRecDepth 100000 in
theorem wm_109 : (.fieldLink RX2 27 RX1 "isFalse" "Z" : Cond) ∈ WS := mw 109 rfl rfl
set_option maxRecDepth 100000 in
theorem wm_110 : (.fieldLink RX0 64 RX1 "isFalse" "Z" : Cond) ∈ WS := mw 110 rfl rfl
set_option maxRecDepth 100000 in
theorem wm_111 : (.fieldLink RX8 125 RX1 "isFalse" "Z" : Cond) ∈ WS := mw 111 rfl rfl
set_option maxRecDepth 100000 in
theorem wm_112 : (.fieldLink RX9 135 RX1 "isFalse" "Z" : Cond) ∈ WS := mw 112 rfl rfl
set_option maxRecDepth 100000 in
theorem wm_113 : (.fieldLink RX1 17 RX1 "where" "I" : Cond) ∈ WS := mw 113 rfl rfl
set_option maxRecDepth 100000 in
theorem wm_114 : (.fieldLink RX0 68 RX1 "where" "I" : Cond) ∈ WS := mw 114 rfl rfl
set_option maxRecDepth 100000 in
theorem wm_115 : (.fieldLink RX6 51 RX1 "where" "I" : Cond) ∈ WS := mw 115 rfl rfl
set_option maxRecDepth 100000 in
theorem wm_116 : (.fieldLink RX9 142 RX1 "where" "I" : Cond) ∈ WS := mw 116 rfl rfl
set_option maxRecDepth 100000 in
theorem wm_117 : (.fieldLink RX0 139 RX1 "goal" "I" : Cond) ∈ WS := mw 117 rfl rfl
set_option maxRecDepth 100000 in
theorem wm_130 : (.instanceMethod yX2_init : Cond) ∈ WS := mw 130 rfl rfl
set_option maxRecDepth 100000 in
theorem wm_131 : (.code yX2_init cX2_init 1 none : Cond) ∈ WS := mw 131 rfl rfl
set_option maxRecDepth 100000 in
theorem wm_132 : (.methodLink RX2 3 objectInit : Cond) ∈ WS := mw 132 rfl rfl
set_option maxRecDepth 100000 in
theorem wm_133 : (.fieldLink RX2 15 RX2 "claw" "I" : Cond) ∈ WS := mw 133 rfl rfl
set_option maxRecDepth 100000 in
theorem wm_134 : (.fieldLink RX0 74 RX2 "claw" "I" : Cond) ∈ WS := mw 134 rfl rfl
set_option maxRecDepth 100000 in
theorem wm_135 : (.fieldLink RX9 156 RX2 "claw" "I" : Cond) ∈ WS := mw 135 rfl rfl
set_option maxRecDepth 100000 in
theorem wm_136 : (.fieldLink RX2 18 RX2 "shell" "I" : Cond) ∈ WS := mw 136 rfl rfl
set_option maxRecDepth 100000 in
theorem wm_137 : (.fieldLink RX0 77 RX2 "shell" "I" : Cond) ∈ WS := mw 137 rfl rfl
set_option maxRecDepth 100000 in
theorem wm_138 : (.fieldLink RX9 161 RX2 "shell" "I" : Cond) ∈ WS := mw 138 rfl rfl
set_option maxRecDepth 100000 in
theorem wm_139 : (.fieldLink RX2 21 RX2 "hand" "I" : Cond) ∈ WS := mw 139 rfl rfl
set_option maxRecDepth 100000 in
theorem wm_140 : (.fieldLink RX0 71 RX2 "hand" "I" : Cond) ∈ WS := mw 140 rfl rfl
set_option maxRecDepth 100000 in
theorem wm_141 : (.fieldLink RX9 164 RX2 "hand" "I" : Cond) ∈ WS := mw 141 rfl rfl
set_option maxRecDepth 100000 in
theorem wm_142 : (.fieldLink RX2 24 RX2 "place" "I" : Cond) ∈ WS := mw 142 rfl rfl
set_option maxRecDepth 100000 in
theorem wm_143 : (.fieldLink RX0 80 RX2 "place" "I" : Cond) ∈ WS := mw 143 rfl rfl
set_option maxRecDepth 100000 in
theorem wm_144 : (.fieldLink RX9 167 RX2 "place" "I" : Cond) ∈ WS := mw 144 rfl rfl
set_option maxRecDepth 100000 in
theorem wm_145 : (.fieldLink RX2 9 RX2 "held" "I" : Cond) ∈ WS := mw 145 rfl rfl
set_option maxRecDepth 100000 in
theorem wm_146 : (.fieldLink RX0 83 RX2 "held" "I" : Cond) ∈ WS := mw 146 rfl rfl
set_option maxRecDepth 100000 in
theorem wm_147 : (.fieldLink RX9 174 RX2 "held" "I" : Cond) ∈ WS := mw 147 rfl rfl
set_option maxRecDepth 100000 in
theorem wm_159 : (.fieldLink RX0 9 RX0 "places" "I" : Cond) ∈ WS := mw 159 rfl rfl
set_option maxRecDepth 100000 in
theorem wm_160 : (.fieldLink RX8 103 RX0 "places" "I" : Cond) ∈ WS := mw 160 rfl rfl
set_option maxRecDepth 100000 in
theorem wm_161 : (.fieldLink RX9 97 RX0 "places" "I" : Cond) ∈ WS := mw 161 rfl rfl
set_option maxRecDepth 100000 in
theorem wm_162 : (.fieldLink RX0 15 RX0 "holes" "[I" : Cond) ∈ WS := mw 162 rfl rfl
set_option maxRecDepth 100000 in
theorem wm_163 : (.fieldLink RX8 108 RX0 "holes" "[I" : Cond) ∈ WS := mw 163 rfl rfl
set_option maxRecDepth 100000 in
theorem wm_164 : (.fieldLink RX9 119 RX0 "holes" "[I" : Cond) ∈ WS := mw 164 rfl rfl
set_option maxRecDepth 100000 in
theorem wm_165 : (.fieldLink RX0 36 RX0 "coinCount" "I" : Cond) ∈ WS := mw 165 rfl rfl
set_option maxRecDepth 100000 in
theorem wm_166 : (.fieldLink RX9 100 RX0 "coinCount" "I" : Cond) ∈ WS := mw 166 rfl rfl
set_option maxRecDepth 100000 in
theorem wm_167 : (.fieldLink RX8 112 RX0 "coinCount" "I" : Cond) ∈ WS := mw 167 rfl rfl
set_option maxRecDepth 100000 in
theorem wm_168 : (.fieldLink RX0 21 RX0 "coins" "[LCrabMint$Coin;" : Cond) ∈ WS := mw 168 rfl rfl
set_option maxRecDepth 100000 in
theorem wm_169 : (.fieldLink RX6 48 RX0 "coins" "[LCrabMint$Coin;" : Cond) ∈ WS := mw 169 rfl rfl
set_option maxRecDepth 100000 in
theorem wm_170 : (.fieldLink RX8 121 RX0 "coins" "[LCrabMint$Coin;" : Cond) ∈ WS := mw 170 rfl rfl
set_option maxRecDepth 100000 in
theorem wm_171 : (.fieldLink RX9 126 RX0 "coins" "[LCrabMint$Coin;" : Cond) ∈ WS := mw 171 rfl rfl
set_option maxRecDepth 100000 in
theorem wm_172 : (.fieldLink RX0 39 RX0 "crabCount" "I" : Cond) ∈ WS := mw 172 rfl rfl
set_option maxRecDepth 100000 in
theorem wm_173 : (.fieldLink RX4 44 RX0 "crabCount" "I" : Cond) ∈ WS := mw 173 rfl rfl
set_option maxRecDepth 100000 in
theorem wm_174 : (.fieldLink RX9 103 RX0 "crabCount" "I" : Cond) ∈ WS := mw 174 rfl rfl
set_option maxRecDepth 100000 in
theorem wm_175 : (.fieldLink RX8 130 RX0 "crabCount" "I" : Cond) ∈ WS := mw 175 rfl rfl
set_option maxRecDepth 100000 in
theorem wm_176 : (.fieldLink RX0 27 RX0 "crabs" "[LCrabMint$Crab;" : Cond) ∈ WS := mw 176 rfl rfl
set_option maxRecDepth 100000 in
theorem wm_177 : (.fieldLink RX9 152 RX0 "crabs" "[LCrabMint$Crab;" : Cond) ∈ WS := mw 177 rfl rfl
set_option maxRecDepth 100000 in
theorem wm_178 : (.fieldLink RX0 45 RX0 "tide" "I" : Cond) ∈ WS := mw 178 rfl rfl
set_option maxRecDepth 100000 in
theorem wm_179 : (.fieldLink RX9 106 RX0 "tide" "I" : Cond) ∈ WS := mw 179 rfl rfl
set_option maxRecDepth 100000 in
theorem wm_180 : (.fieldLink RX8 145 RX0 "tide" "I" : Cond) ∈ WS := mw 180 rfl rfl
set_option maxRecDepth 100000 in
theorem wm_181 : (.fieldLink RX0 48 RX0 "wet" "I" : Cond) ∈ WS := mw 181 rfl rfl
set_option maxRecDepth 100000 in
theorem wm_182 : (.fieldLink RX9 109 RX0 "wet" "I" : Cond) ∈ WS := mw 182 rfl rfl
set_option maxRecDepth 100000 in
theorem wm_183 : (.fieldLink RX8 147 RX0 "wet" "I" : Cond) ∈ WS := mw 183 rfl rfl
set_option maxRecDepth 100000 in
theorem wm_184 : (.fieldLink RX0 51 RX0 "step" "I" : Cond) ∈ WS := mw 184 rfl rfl
set_option maxRecDepth 100000 in
theorem wm_185 : (.fieldLink RX9 112 RX0 "step" "I" : Cond) ∈ WS := mw 185 rfl rfl
set_option maxRecDepth 100000 in
theorem wm_186 : (.fieldLink RX0 31 RX0 "order" "[I" : Cond) ∈ WS := mw 186 rfl rfl
set_option maxRecDepth 100000 in
theorem wm_187 : (.fieldLink RX4 31 RX0 "order" "[I" : Cond) ∈ WS := mw 187 rfl rfl
set_option maxRecDepth 100000 in
theorem wm_188 : (.fieldLink RX0 42 RX0 "acting" "I" : Cond) ∈ WS := mw 188 rfl rfl
set_option maxRecDepth 100000 in
theorem wm_215 : (.instanceMethod yX6_init : Cond) ∈ WS := mw 215 rfl rfl
set_option maxRecDepth 100000 in
theorem wm_216 : (.code yX6_init cX6_init 1 none : Cond) ∈ WS := mw 216 rfl rfl
set_option maxRecDepth 100000 in
theorem wm_217 : (.methodLink RX6 3 objectInit : Cond) ∈ WS := mw 217 rfl rfl
set_option maxRecDepth 100000 in
theorem wm_218 : (.fieldLink RX6 25 RX6 "count" "I" : Cond) ∈ WS := mw 218 rfl rfl
set_option maxRecDepth 100000 in
theorem wm_219 : (.fieldLink RX9 90 RX6 "count" "I" : Cond) ∈ WS := mw 219 rfl rfl
set_option maxRecDepth 100000 in
theorem wm_220 : (.fieldLink RX6 9 RX6 "steps" "[I" : Cond) ∈ WS := mw 220 rfl rfl
set_option maxRecDepth 100000 in
theorem wm_221 : (.fieldLink RX6 15 RX6 "coins" "[I" : Cond) ∈ WS := mw 221 rfl rfl
set_option maxRecDepth 100000 in
theorem wm_222 : (.fieldLink RX6 18 RX6 "wheres" "[I" : Cond) ∈ WS := mw 222 rfl rfl
set_option maxRecDepth 100000 in
theorem wm_223 : (.fieldLink RX6 21 RX6 "are" "[Z" : Cond) ∈ WS := mw 223 rfl rfl
set_option maxRecDepth 100000 in
theorem wm_239 : (.instanceMethod yX4_init : Cond) ∈ WS := mw 239 rfl rfl
set_option maxRecDepth 100000 in
theorem wm_240 : (.code yX4_init cX4_init 1 none : Cond) ∈ WS := mw 240 rfl rfl
set_option maxRecDepth 100000 in
theorem wm_241 : (.methodLink RX4 3 objectInit : Cond) ∈ WS := mw 241 rfl rfl
set_option maxRecDepth 100000 in
theorem wm_242 : (.fieldLink RX4 18 RX4 "count" "I" : Cond) ∈ WS := mw 242 rfl rfl
set_option maxRecDepth 100000 in
theorem wm_243 : (.fieldLink RX9 209 RX4 "count" "I" : Cond) ∈ WS := mw 243 rfl rfl
set_option maxRecDepth 100000 in
theorem wm_244 : (.fieldLink RX4 22 RX4 "fewestSteps" "I" : Cond) ∈ WS := mw 244 rfl rfl
set_option maxRecDepth 100000 in
theorem wm_245 : (.fieldLink RX9 210 RX4 "fewestSteps" "I" : Cond) ∈ WS := mw 245 rfl rfl
set_option maxRecDepth 100000 in
theorem wm_246 : (.fieldLink RX4 9 RX4 "first" "[I" : Cond) ∈ WS := mw 246 rfl rfl
set_option maxRecDepth 100000 in
theorem wm_247 : (.fieldLink RX9 213 RX4 "first" "[I" : Cond) ∈ WS := mw 247 rfl rfl
set_option maxRecDepth 100000 in
theorem wm_248 : (.fieldLink RX4 15 RX4 "order" "[I" : Cond) ∈ WS := mw 248 rfl rfl
set_option maxRecDepth 100000 in
theorem wm_261 : (.instanceMethod yX8_init : Cond) ∈ WS := mw 261 rfl rfl
set_option maxRecDepth 100000 in
theorem wm_262 : (.code yX8_init cX8_init 1 none : Cond) ∈ WS := mw 262 rfl rfl
set_option maxRecDepth 100000 in
theorem wm_263 : (.methodLink RX8 3 objectInit : Cond) ∈ WS := mw 263 rfl rfl
set_option maxRecDepth 100000 in
theorem wm_267 : (.instanceMethod yX7_init : Cond) ∈ WS := mw 267 rfl rfl
set_option maxRecDepth 100000 in
theorem wm_268 : (.code yX7_init cX7_init 1 none : Cond) ∈ WS := mw 268 rfl rfl
set_option maxRecDepth 100000 in
theorem wm_269 : (.methodLink RX7 3 objectInit : Cond) ∈ WS := mw 269 rfl rfl
set_option maxRecDepth 100000 in
theorem wm_270 : (.fieldLink RX7 9 RX7 "bytes" "[B" : Cond) ∈ WS := mw 270 rfl rfl
set_option maxRecDepth 100000 in
theorem wm_271 : (.fieldLink RX8 159 RX7 "bytes" "[B" : Cond) ∈ WS := mw 271 rfl rfl
set_option maxRecDepth 100000 in
theorem wm_272 : (.fieldLink RX9 59 RX7 "length" "I" : Cond) ∈ WS := mw 272 rfl rfl
set_option maxRecDepth 100000 in
theorem wm_273 : (.fieldLink RX7 15 RX7 "length" "I" : Cond) ∈ WS := mw 273 rfl rfl
set_option maxRecDepth 100000 in
theorem wm_274 : (.fieldLink RX8 58 RX7 "length" "I" : Cond) ∈ WS := mw 274 rfl rfl
set_option maxRecDepth 100000 in
theorem wm_282 : (.methodLink RX8 20 yX0_init : Cond) ∈ WS := mw 282 rfl rfl
set_option maxRecDepth 100000 in
theorem wm_283 : (.fieldLink RX8 12 RX8 "tape" "LCrabMint$Tape;" : Cond) ∈ WS := mw 283 rfl rfl
set_option maxRecDepth 100000 in
theorem wm_284 : (.fieldLink RX9 40 RX8 "tape" "LCrabMint$Tape;" : Cond) ∈ WS := mw 284 rfl rfl
set_option maxRecDepth 100000 in
theorem wm_285 : (.fieldLink RX8 21 RX8 "told" "LCrabMint$Beach;" : Cond) ∈ WS := mw 285 rfl rfl
set_option maxRecDepth 100000 in
theorem wm_286 : (.fieldLink RX9 83 RX8 "told" "LCrabMint$Beach;" : Cond) ∈ WS := mw 286 rfl rfl
set_option maxRecDepth 100000 in
theorem wm_287 : (.fieldLink RX8 28 RX8 "fault" "I" : Cond) ∈ WS := mw 287 rfl rfl
set_option maxRecDepth 100000 in
theorem wm_288 : (.fieldLink RX9 77 RX8 "fault" "I" : Cond) ∈ WS := mw 288 rfl rfl
set_option maxRecDepth 100000 in
theorem wm_289 : (.fieldLink RX8 32 RX8 "faultPlace" "I" : Cond) ∈ WS := mw 289 rfl rfl
set_option maxRecDepth 100000 in
theorem wm_290 : (.fieldLink RX9 80 RX8 "faultPlace" "I" : Cond) ∈ WS := mw 290 rfl rfl
set_option maxRecDepth 100000 in
theorem wm_291 : (.fieldLink RX8 35 RX8 "placesTold" "Z" : Cond) ∈ WS := mw 291 rfl rfl
set_option maxRecDepth 100000 in
theorem wm_292 : (.fieldLink RX8 39 RX8 "tideTold" "Z" : Cond) ∈ WS := mw 292 rfl rfl
set_option maxRecDepth 100000 in
theorem wm_293 : (.fieldLink RX8 49 RX8 "kind" "I" : Cond) ∈ WS := mw 293 rfl rfl
set_option maxRecDepth 100000 in
theorem wm_294 : (.fieldLink RX8 94 RX8 "from" "I" : Cond) ∈ WS := mw 294 rfl rfl
set_option maxRecDepth 100000 in
theorem wm_295 : (.fieldLink RX8 42 RX8 "to" "I" : Cond) ∈ WS := mw 295 rfl rfl
set_option maxRecDepth 100000 in
theorem wm_296 : (.fieldLink RX8 100 RX8 "value" "I" : Cond) ∈ WS := mw 296 rfl rfl
set_option maxRecDepth 100000 in
theorem wm_324 : (.instanceMethod yX3_init : Cond) ∈ WS := mw 324 rfl rfl
set_option maxRecDepth 100000 in
theorem wm_325 : (.code yX3_init cX3_init 1 none : Cond) ∈ WS := mw 325 rfl rfl
set_option maxRecDepth 100000 in
theorem wm_326 : (.methodLink RX3 1 objectInit : Cond) ∈ WS := mw 326 rfl rfl
set_option maxRecDepth 100000 in
theorem wm_328 : (.methodLink RX3 9 yX0_init : Cond) ∈ WS := mw 328 rfl rfl
set_option maxRecDepth 100000 in
theorem wm_331 : (.fieldLink RX3 23 RX3 "kept" "Z" : Cond) ∈ WS := mw 331 rfl rfl
set_option maxRecDepth 100000 in
theorem wm_332 : (.fieldLink RX9 93 RX3 "kept" "Z" : Cond) ∈ WS := mw 332 rfl rfl
set_option maxRecDepth 100000 in
theorem wm_333 : (.fieldLink RX3 10 RX3 "beach" "LCrabMint$Beach;" : Cond) ∈ WS := mw 333 rfl rfl
set_option maxRecDepth 100000 in
theorem wm_334 : (.fieldLink RX9 256 RX3 "beach" "LCrabMint$Beach;" : Cond) ∈ WS := mw 334 rfl rfl
set_option maxRecDepth 100000 in
theorem wm_335 : (.fieldLink RX3 19 RX3 "sights" "LCrabMint$Sights;" : Cond) ∈ WS := mw 335 rfl rfl
set_option maxRecDepth 100000 in
theorem wm_336 : (.fieldLink RX9 259 RX3 "sights" "LCrabMint$Sights;" : Cond) ∈ WS := mw 336 rfl rfl
set_option maxRecDepth 100000 in
theorem wm_346 : (.instanceMethod yX5_init : Cond) ∈ WS := mw 346 rfl rfl
set_option maxRecDepth 100000 in
theorem wm_347 : (.code yX5_init cX5_init 1 none : Cond) ∈ WS := mw 347 rfl rfl
set_option maxRecDepth 100000 in
theorem wm_348 : (.methodLink RX5 3 objectInit : Cond) ∈ WS := mw 348 rfl rfl
set_option maxRecDepth 100000 in
theorem wm_349 : (.fieldLink RX5 9 RX5 "cells" "[I" : Cond) ∈ WS := mw 349 rfl rfl
set_option maxRecDepth 100000 in
theorem wm_350 : (.fieldLink RX9 281 RX5 "cells" "[I" : Cond) ∈ WS := mw 350 rfl rfl
set_option maxRecDepth 100000 in
theorem wm_351 : (.fieldLink RX5 15 RX5 "lane" "I" : Cond) ∈ WS := mw 351 rfl rfl
set_option maxRecDepth 100000 in
theorem wm_352 : (.fieldLink RX9 290 RX5 "lane" "I" : Cond) ∈ WS := mw 352 rfl rfl
set_option maxRecDepth 100000 in
theorem wm_353 : (.fieldLink RX5 19 RX5 "length" "I" : Cond) ∈ WS := mw 353 rfl rfl
set_option maxRecDepth 100000 in
theorem wm_354 : (.fieldLink RX9 293 RX5 "length" "I" : Cond) ∈ WS := mw 354 rfl rfl
set_option maxRecDepth 100000 in
theorem wm_362 : (.fieldLink RX9 10 RX9 "now" "LCrabMint$Beach;" : Cond) ∈ WS := mw 362 rfl rfl
set_option maxRecDepth 100000 in
theorem wm_363 : (.fieldLink RX9 16 RX9 "trial" "LCrabMint$Beach;" : Cond) ∈ WS := mw 363 rfl rfl
set_option maxRecDepth 100000 in
theorem wm_364 : (.fieldLink RX9 22 RX9 "sights" "LCrabMint$Sights;" : Cond) ∈ WS := mw 364 rfl rfl
set_option maxRecDepth 100000 in
theorem wm_365 : (.fieldLink RX9 29 RX9 "tried" "LCrabMint$Orders;" : Cond) ∈ WS := mw 365 rfl rfl
set_option maxRecDepth 100000 in
theorem wm_366 : (.fieldLink RX9 36 RX9 "teller" "LCrabMint$Teller;" : Cond) ∈ WS := mw 366 rfl rfl
set_option maxRecDepth 100000 in
theorem wm_367 : (.fieldLink RX9 44 RX9 "tape" "LCrabMint$Tape;" : Cond) ∈ WS := mw 367 rfl rfl
set_option maxRecDepth 100000 in
theorem wm_368 : (.fieldLink RX9 47 RX9 "images" "[LCrabMint$Image;" : Cond) ∈ WS := mw 368 rfl rfl
set_option maxRecDepth 100000 in
theorem wm_369 : (.fieldLink RX9 53 RX9 "sheets" "[LCrabMint$Sheet;" : Cond) ∈ WS := mw 369 rfl rfl
set_option maxRecDepth 100000 in
theorem wm_370 : (.fieldLink RX9 287 RX9 "tornBy" "I" : Cond) ∈ WS := mw 370 rfl rfl
set_option maxRecDepth 100000 in
theorem wm_390 : (.methodLink RL 15 yX9_feed : Cond) ∈ WS := mw 390 rfl rfl
set_option maxRecDepth 100000 in
theorem wm_391 : (.instanceMethod yX9_feed : Cond) ∈ WS := mw 391 rfl rfl
set_option maxRecDepth 100000 in
theorem wm_392 : (.selects RX9 yX9_feed yX9_feed : Cond) ∈ WS := mw 392 rfl rfl
set_option maxRecDepth 100000 in
theorem wm_393 : (.code yX9_feed cX9_feed 3 (some .int) : Cond) ∈ WS := mw 393 rfl rfl
set_option maxRecDepth 100000 in
theorem wm_394 : (.methodLink RX9 65 yX7_append : Cond) ∈ WS := mw 394 rfl rfl
set_option maxRecDepth 100000 in
theorem wm_395 : (.instanceMethod yX7_append : Cond) ∈ WS := mw 395 rfl rfl
set_option maxRecDepth 100000 in
theorem wm_396 : (.selects RX7 yX7_append yX7_append : Cond) ∈ WS := mw 396 rfl rfl
set_option maxRecDepth 100000 in
theorem wm_397 : (.code yX7_append cX7_append 4 none : Cond) ∈ WS := mw 397 rfl rfl
set_option maxRecDepth 100000 in
theorem wm_398 : (.methodLink RL 20 yX9_end : Cond) ∈ WS := mw 398 rfl rfl
set_option maxRecDepth 100000 in
theorem wm_399 : (.instanceMethod yX9_end : Cond) ∈ WS := mw 399 rfl rfl
set_option maxRecDepth 100000 in
theorem wm_400 : (.selects RX9 yX9_end yX9_end : Cond) ∈ WS := mw 400 rfl rfl
set_option maxRecDepth 100000 in
theorem wm_401 : (.code yX9_end cX9_end 3 (some .int) : Cond) ∈ WS := mw 401 rfl rfl
set_option maxRecDepth 100000 in
theorem wm_402 : (.methodLink RX9 69 yX9_within : Cond) ∈ WS := mw 402 rfl rfl
set_option maxRecDepth 100000 in
theorem wm_403 : (.static yX9_within : Cond) ∈ WS := mw 403 rfl rfl
set_option maxRecDepth 100000 in
theorem wm_404 : (.code yX9_within cX9_within 3 (some .boolean) : Cond) ∈ WS := mw 404 rfl rfl
set_option maxRecDepth 100000 in
theorem wm_405 : (.methodLink RL 25 yX9_text : Cond) ∈ WS := mw 405 rfl rfl
set_option maxRecDepth 100000 in
theorem wm_406 : (.instanceMethod yX9_text : Cond) ∈ WS := mw 406 rfl rfl
set_option maxRecDepth 100000 in
theorem wm_407 : (.selects RX9 yX9_text yX9_text : Cond) ∈ WS := mw 407 rfl rfl
set_option maxRecDepth 100000 in
theorem wm_408 : (.code yX9_text cX9_text 3 (some .int) : Cond) ∈ WS := mw 408 rfl rfl
set_option maxRecDepth 100000 in
theorem wm_409 : (.methodLink RX9 73 yX8_tellAll : Cond) ∈ WS := mw 409 rfl rfl
set_option maxRecDepth 100000 in
theorem wm_410 : (.instanceMethod yX8_tellAll : Cond) ∈ WS := mw 410 rfl rfl
set_option maxRecDepth 100000 in
theorem wm_411 : (.selects RX8 yX8_tellAll yX8_tellAll : Cond) ∈ WS := mw 411 rfl rfl
set_option maxRecDepth 100000 in
theorem wm_412 : (.code yX8_tellAll cX8_tellAll 2 (some .int) : Cond) ∈ WS := mw 412 rfl rfl
set_option maxRecDepth 100000 in
theorem wm_413 : (.methodLink RX8 25 yX0_clear : Cond) ∈ WS := mw 413 rfl rfl
set_option maxRecDepth 100000 in
theorem wm_414 : (.instanceMethod yX0_clear : Cond) ∈ WS := mw 414 rfl rfl
set_option maxRecDepth 100000 in
theorem wm_415 : (.selects RX0 yX0_clear yX0_clear : Cond) ∈ WS := mw 415 rfl rfl
set_option maxRecDepth 100000 in
theorem wm_416 : (.code yX0_clear cX0_clear 2 none : Cond) ∈ WS := mw 416 rfl rfl
set_option maxRecDepth 100000 in
theorem wm_417 : (.methodLink RX8 45 yX8_takeToken : Cond) ∈ WS := mw 417 rfl rfl
set_option maxRecDepth 100000 in
theorem wm_419 : (.instanceMethod yX8_takeToken : Cond) ∈ WS := mw 419 rfl rfl
set_option maxRecDepth 100000 in
theorem wm_420 : (.code yX8_takeToken cX8_takeToken 3 (some .boolean) : Cond) ∈ WS := mw 420 rfl rfl
set_option maxRecDepth 100000 in
theorem wm_421 : (.methodLink RX8 167 yX8_kindOf : Cond) ∈ WS := mw 421 rfl rfl
set_option maxRecDepth 100000 in
theorem wm_422 : (.static yX8_kindOf : Cond) ∈ WS := mw 422 rfl rfl
set_option maxRecDepth 100000 in
theorem wm_423 : (.code yX8_kindOf cX8_kindOf 1 (some .int) : Cond) ∈ WS := mw 423 rfl rfl
set_option maxRecDepth 100000 in
theorem wm_424 : (.methodLink RX8 61 yX8_refuse : Cond) ∈ WS := mw 424 rfl rfl
set_option maxRecDepth 100000 in
theorem wm_426 : (.instanceMethod yX8_refuse : Cond) ∈ WS := mw 426 rfl rfl
set_option maxRecDepth 100000 in
theorem wm_427 : (.code yX8_refuse cX8_refuse 3 (some .boolean) : Cond) ∈ WS := mw 427 rfl rfl
set_option maxRecDepth 100000 in
theorem wm_428 : (.methodLink RX8 52 yX8_takeLine : Cond) ∈ WS := mw 428 rfl rfl
set_option maxRecDepth 100000 in
theorem wm_430 : (.instanceMethod yX8_takeLine : Cond) ∈ WS := mw 430 rfl rfl
set_option maxRecDepth 100000 in
theorem wm_431 : (.code yX8_takeLine cX8_takeLine 1 (some .boolean) : Cond) ∈ WS := mw 431 rfl rfl
set_option maxRecDepth 100000 in
theorem wm_433 : (.methodLink RX8 67 yX8_isName : Cond) ∈ WS := mw 433 rfl rfl
set_option maxRecDepth 100000 in
theorem wm_435 : (.instanceMethod yX8_isName : Cond) ∈ WS := mw 435 rfl rfl
set_option maxRecDepth 100000 in
theorem wm_436 : (.code yX8_isName cX8_isName 3 (some .boolean) : Cond) ∈ WS := mw 436 rfl rfl
set_option maxRecDepth 100000 in
theorem wm_437 : (.methodLink RX8 154 yJ0_length_8abf5 : Cond) ∈ WS := mw 437 rfl rfl
set_option maxRecDepth 100000 in
theorem wm_438 : (.instanceMethod yJ0_length_8abf5 : Cond) ∈ WS := mw 438 rfl rfl
set_option maxRecDepth 100000 in
theorem wm_439 : (.selects RJ0 yJ0_length_8abf5 yJ0_length_8abf5 : Cond) ∈ WS := mw 439 rfl rfl
set_option maxRecDepth 100000 in
theorem wm_440 : (.code yJ0_length_8abf5 cJ0_length_8abf5 1 (some .int) : Cond) ∈ WS := mw 440 rfl rfl
set_option maxRecDepth 100000 in
theorem wm_441 : (.methodLink RJ0 335 yJ0_coder_7d493 : Cond) ∈ WS := mw 441 rfl rfl
set_option maxRecDepth 100000 in
theorem wm_442 : (.instanceMethod yJ0_coder_7d493 : Cond) ∈ WS := mw 442 rfl rfl
set_option maxRecDepth 100000 in
theorem wm_443 : (.selects RJ0 yJ0_coder_7d493 yJ0_coder_7d493 : Cond) ∈ WS := mw 443 rfl rfl
set_option maxRecDepth 100000 in
theorem wm_444 : (.code yJ0_coder_7d493 cJ0_coder_7d493 1 (some .byte) : Cond) ∈ WS := mw 444 rfl rfl
set_option maxRecDepth 100000 in
theorem wm_445 : (.fieldLink RJ0 38 RJ0 "COMPACT_STRINGS" "Z" : Cond) ∈ WS := mw 445 rfl rfl
set_option maxRecDepth 100000 in
theorem wm_447 : (.methodLink RX8 163 yJ0_charAt_5068e : Cond) ∈ WS := mw 447 rfl rfl
set_option maxRecDepth 100000 in
theorem wm_448 : (.instanceMethod yJ0_charAt_5068e : Cond) ∈ WS := mw 448 rfl rfl
set_option maxRecDepth 100000 in
theorem wm_449 : (.selects RJ0 yJ0_charAt_5068e yJ0_charAt_5068e : Cond) ∈ WS := mw 449 rfl rfl
set_option maxRecDepth 100000 in
theorem wm_450 : (.code yJ0_charAt_5068e cJ0_charAt_5068e 2 (some .char) : Cond) ∈ WS := mw 450 rfl rfl
set_option maxRecDepth 100000 in
theorem wm_451 : (.methodLink RJ0 492 yJ0_isLatin1_aae02 : Cond) ∈ WS := mw 451 rfl rfl
set_option maxRecDepth 100000 in
theorem wm_452 : (.instanceMethod yJ0_isLatin1_aae02 : Cond) ∈ WS := mw 452 rfl rfl
set_option maxRecDepth 100000 in
theorem wm_453 : (.selects RJ0 yJ0_isLatin1_aae02 yJ0_isLatin1_aae02 : Cond) ∈ WS := mw 453 rfl rfl
set_option maxRecDepth 100000 in
theorem wm_454 : (.code yJ0_isLatin1_aae02 cJ0_isLatin1_aae02 1 (some .boolean) : Cond) ∈ WS := mw 454 rfl rfl
set_option maxRecDepth 100000 in
theorem wm_455 : (.methodLink RJ0 495 yJ1_charAt_3b067 : Cond) ∈ WS := mw 455 rfl rfl
set_option maxRecDepth 100000 in
theorem wm_456 : (.static yJ1_charAt_3b067 : Cond) ∈ WS := mw 456 rfl rfl
set_option maxRecDepth 100000 in
theorem wm_457 : (.code yJ1_charAt_3b067 cJ1_charAt_3b067 2 (some .char) : Cond) ∈ WS := mw 457 rfl rfl
set_option maxRecDepth 100000 in
theorem wm_458 : (.methodLink RJ1 9 yJ0_checkIndex_df160 : Cond) ∈ WS := mw 458 rfl rfl
set_option maxRecDepth 100000 in
theorem wm_459 : (.static yJ0_checkIndex_df160 : Cond) ∈ WS := mw 459 rfl rfl
set_option maxRecDepth 100000 in
theorem wm_460 : (.code yJ0_checkIndex_df160 cJ0_checkIndex_df160 2 none : Cond) ∈ WS := mw 460 rfl rfl
set_option maxRecDepth 100000 in
theorem wm_461 : (.fieldLink RJ0 1053 RJ3 "SIOOBE_FORMATTER" "Ljava/util/function/BiFunction;" : Cond) ∈ WS := mw 461 rfl rfl
set_option maxRecDepth 100000 in
theorem wm_463 : (.methodLink RJ0 1059 yJ3_checkIndex_8e157 : Cond) ∈ WS := mw 463 rfl rfl
set_option maxRecDepth 100000 in
theorem wm_464 : (.static yJ3_checkIndex_8e157 : Cond) ∈ WS := mw 464 rfl rfl
set_option maxRecDepth 100000 in
theorem wm_465 : (.code yJ3_checkIndex_8e157 cJ3_checkIndex_8e157 3 (some .int) : Cond) ∈ WS := mw 465 rfl rfl
set_option maxRecDepth 100000 in
theorem wm_466 : (.methodLink RJ0 498 yJ2_charAt_3b067 : Cond) ∈ WS := mw 466 rfl rfl
set_option maxRecDepth 100000 in
theorem wm_467 : (.static yJ2_charAt_3b067 : Cond) ∈ WS := mw 467 rfl rfl
set_option maxRecDepth 100000 in
theorem wm_468 : (.code yJ2_charAt_3b067 cJ2_charAt_3b067 2 (some .char) : Cond) ∈ WS := mw 468 rfl rfl
set_option maxRecDepth 100000 in
theorem wm_469 : (.methodLink RJ2 67 yJ2_checkIndex_2214a : Cond) ∈ WS := mw 469 rfl rfl
set_option maxRecDepth 100000 in
theorem wm_470 : (.static yJ2_checkIndex_2214a : Cond) ∈ WS := mw 470 rfl rfl
set_option maxRecDepth 100000 in
theorem wm_471 : (.code yJ2_checkIndex_2214a cJ2_checkIndex_2214a 2 none : Cond) ∈ WS := mw 471 rfl rfl
set_option maxRecDepth 100000 in
theorem wm_472 : (.methodLink RJ2 48 yJ2_length_9d52b : Cond) ∈ WS := mw 472 rfl rfl
set_option maxRecDepth 100000 in
theorem wm_473 : (.static yJ2_length_9d52b : Cond) ∈ WS := mw 473 rfl rfl
set_option maxRecDepth 100000 in
theorem wm_474 : (.code yJ2_length_9d52b cJ2_length_9d52b 1 (some .int) : Cond) ∈ WS := mw 474 rfl rfl
set_option maxRecDepth 100000 in
theorem wm_475 : (.methodLink RJ2 414 yJ0_checkIndex_df160 : Cond) ∈ WS := mw 475 rfl rfl
set_option maxRecDepth 100000 in
theorem wm_476 : (.methodLink RJ2 71 yJ2_getChar_3b067 : Cond) ∈ WS := mw 476 rfl rfl
set_option maxRecDepth 100000 in
theorem wm_477 : (.static yJ2_getChar_3b067 : Cond) ∈ WS := mw 477 rfl rfl
set_option maxRecDepth 100000 in
theorem wm_478 : (.code yJ2_getChar_3b067 cJ2_getChar_3b067 2 (some .char) : Cond) ∈ WS := mw 478 rfl rfl
set_option maxRecDepth 100000 in
theorem wm_479 : (.fieldLink RJ2 44 RJ2 "$assertionsDisabled" "Z" : Cond) ∈ WS := mw 479 rfl rfl
set_option maxRecDepth 100000 in
theorem wm_481 : (.fieldLink RJ2 59 RJ2 "HI_BYTE_SHIFT" "I" : Cond) ∈ WS := mw 481 rfl rfl
set_option maxRecDepth 100000 in
theorem wm_483 : (.fieldLink RJ2 63 RJ2 "LO_BYTE_SHIFT" "I" : Cond) ∈ WS := mw 483 rfl rfl
set_option maxRecDepth 100000 in
theorem wm_485 : (.methodLink RX8 71 yX8_takePlaces : Cond) ∈ WS := mw 485 rfl rfl
set_option maxRecDepth 100000 in
theorem wm_487 : (.instanceMethod yX8_takePlaces : Cond) ∈ WS := mw 487 rfl rfl
set_option maxRecDepth 100000 in
theorem wm_488 : (.code yX8_takePlaces cX8_takePlaces 1 (some .boolean) : Cond) ∈ WS := mw 488 rfl rfl
set_option maxRecDepth 100000 in
theorem wm_489 : (.methodLink RX8 97 yX8_takeNumber : Cond) ∈ WS := mw 489 rfl rfl
set_option maxRecDepth 100000 in
theorem wm_491 : (.instanceMethod yX8_takeNumber : Cond) ∈ WS := mw 491 rfl rfl
set_option maxRecDepth 100000 in
theorem wm_492 : (.code yX8_takeNumber cX8_takeNumber 3 (some .boolean) : Cond) ∈ WS := mw 492 rfl rfl
set_option maxRecDepth 100000 in
theorem wm_494 : (.methodLink RX8 105 yX8_endsLine : Cond) ∈ WS := mw 494 rfl rfl
set_option maxRecDepth 100000 in
theorem wm_496 : (.instanceMethod yX8_endsLine : Cond) ∈ WS := mw 496 rfl rfl
set_option maxRecDepth 100000 in
theorem wm_497 : (.code yX8_endsLine cX8_endsLine 1 (some .boolean) : Cond) ∈ WS := mw 497 rfl rfl
set_option maxRecDepth 100000 in
theorem wm_499 : (.methodLink RX8 76 yX8_takeHole : Cond) ∈ WS := mw 499 rfl rfl
set_option maxRecDepth 100000 in
theorem wm_501 : (.instanceMethod yX8_takeHole : Cond) ∈ WS := mw 501 rfl rfl
set_option maxRecDepth 100000 in
theorem wm_502 : (.code yX8_takeHole cX8_takeHole 2 (some .boolean) : Cond) ∈ WS := mw 502 rfl rfl
set_option maxRecDepth 100000 in
theorem wm_504 : (.methodLink RX8 81 yX8_takeCoin : Cond) ∈ WS := mw 504 rfl rfl
set_option maxRecDepth 100000 in
theorem wm_506 : (.instanceMethod yX8_takeCoin : Cond) ∈ WS := mw 506 rfl rfl
set_option maxRecDepth 100000 in
theorem wm_507 : (.code yX8_takeCoin cX8_takeCoin 3 (some .boolean) : Cond) ∈ WS := mw 507 rfl rfl
set_option maxRecDepth 100000 in
theorem wm_508 : (.methodLink RX8 115 yX0_addCoin : Cond) ∈ WS := mw 508 rfl rfl
set_option maxRecDepth 100000 in
theorem wm_509 : (.instanceMethod yX0_addCoin : Cond) ∈ WS := mw 509 rfl rfl
set_option maxRecDepth 100000 in
theorem wm_510 : (.selects RX0 yX0_addCoin yX0_addCoin : Cond) ∈ WS := mw 510 rfl rfl
set_option maxRecDepth 100000 in
theorem wm_511 : (.code yX0_addCoin cX0_addCoin 4 none : Cond) ∈ WS := mw 511 rfl rfl
set_option maxRecDepth 100000 in
theorem wm_514 : (.methodLink RX8 86 yX8_takeCrab : Cond) ∈ WS := mw 514 rfl rfl
set_option maxRecDepth 100000 in
theorem wm_516 : (.instanceMethod yX8_takeCrab : Cond) ∈ WS := mw 516 rfl rfl
set_option maxRecDepth 100000 in
theorem wm_517 : (.code yX8_takeCrab cX8_takeCrab 4 (some .boolean) : Cond) ∈ WS := mw 517 rfl rfl
set_option maxRecDepth 100000 in
theorem wm_521 : (.static yX9_asNumber : Cond) ∈ WS := mw 521 rfl rfl
set_option maxRecDepth 100000 in
theorem wm_522 : (.code yX9_asNumber cX9_asNumber 1 (some .int) : Cond) ∈ WS := mw 522 rfl rfl
set_option maxRecDepth 100000 in
theorem wm_523 : (.methodLink RX8 141 yX0_addCrab : Cond) ∈ WS := mw 523 rfl rfl
set_option maxRecDepth 100000 in
theorem wm_524 : (.instanceMethod yX0_addCrab : Cond) ∈ WS := mw 524 rfl rfl
set_option maxRecDepth 100000 in
theorem wm_525 : (.selects RX0 yX0_addCrab yX0_addCrab : Cond) ∈ WS := mw 525 rfl rfl
set_option maxRecDepth 100000 in
theorem wm_526 : (.code yX0_addCrab cX0_addCrab 6 none : Cond) ∈ WS := mw 526 rfl rfl
set_option maxRecDepth 100000 in
theorem wm_528 : (.methodLink RX8 91 yX8_takeTide : Cond) ∈ WS := mw 528 rfl rfl
set_option maxRecDepth 100000 in
theorem wm_530 : (.instanceMethod yX8_takeTide : Cond) ∈ WS := mw 530 rfl rfl
set_option maxRecDepth 100000 in
theorem wm_531 : (.code yX8_takeTide cX8_takeTide 1 (some .boolean) : Cond) ∈ WS := mw 531 rfl rfl
set_option maxRecDepth 100000 in
theorem wm_532 : (.methodLink RX8 55 yX0_hasItsPlaces : Cond) ∈ WS := mw 532 rfl rfl
set_option maxRecDepth 100000 in
theorem wm_533 : (.instanceMethod yX0_hasItsPlaces : Cond) ∈ WS := mw 533 rfl rfl
set_option maxRecDepth 100000 in
theorem wm_534 : (.selects RX0 yX0_hasItsPlaces yX0_hasItsPlaces : Cond) ∈ WS := mw 534 rfl rfl
set_option maxRecDepth 100000 in
theorem wm_535 : (.code yX0_hasItsPlaces cX0_hasItsPlaces 2 (some .boolean) : Cond) ∈ WS := mw 535 rfl rfl
set_option maxRecDepth 100000 in
theorem wm_536 : (.methodLink RX9 86 yX0_copyFrom : Cond) ∈ WS := mw 536 rfl rfl
set_option maxRecDepth 100000 in
theorem wm_537 : (.instanceMethod yX0_copyFrom : Cond) ∈ WS := mw 537 rfl rfl
set_option maxRecDepth 100000 in
theorem wm_538 : (.selects RX0 yX0_copyFrom yX0_copyFrom : Cond) ∈ WS := mw 538 rfl rfl
set_option maxRecDepth 100000 in
theorem wm_539 : (.code yX0_copyFrom cX0_copyFrom 3 none : Cond) ∈ WS := mw 539 rfl rfl
set_option maxRecDepth 100000 in
theorem wm_540 : (.methodLink RX0 54 yX1_copyFrom : Cond) ∈ WS := mw 540 rfl rfl
set_option maxRecDepth 100000 in
theorem wm_541 : (.instanceMethod yX1_copyFrom : Cond) ∈ WS := mw 541 rfl rfl
set_option maxRecDepth 100000 in
theorem wm_542 : (.selects RX1 yX1_copyFrom yX1_copyFrom : Cond) ∈ WS := mw 542 rfl rfl
set_option maxRecDepth 100000 in
theorem wm_543 : (.code yX1_copyFrom cX1_copyFrom 2 none : Cond) ∈ WS := mw 543 rfl rfl
set_option maxRecDepth 100000 in
theorem wm_544 : (.methodLink RX0 58 yX2_copyFrom : Cond) ∈ WS := mw 544 rfl rfl
set_option maxRecDepth 100000 in
theorem wm_545 : (.instanceMethod yX2_copyFrom : Cond) ∈ WS := mw 545 rfl rfl
set_option maxRecDepth 100000 in
theorem wm_546 : (.selects RX2 yX2_copyFrom yX2_copyFrom : Cond) ∈ WS := mw 546 rfl rfl
set_option maxRecDepth 100000 in
theorem wm_547 : (.code yX2_copyFrom cX2_copyFrom 2 none : Cond) ∈ WS := mw 547 rfl rfl
set_option maxRecDepth 100000 in
theorem wm_548 : (.methodLink RL 30 yX9_fault : Cond) ∈ WS := mw 548 rfl rfl
set_option maxRecDepth 100000 in
theorem wm_549 : (.instanceMethod yX9_fault : Cond) ∈ WS := mw 549 rfl rfl
set_option maxRecDepth 100000 in
theorem wm_550 : (.selects RX9 yX9_fault yX9_fault : Cond) ∈ WS := mw 550 rfl rfl
set_option maxRecDepth 100000 in
theorem wm_551 : (.code yX9_fault cX9_fault 1 (some .int) : Cond) ∈ WS := mw 551 rfl rfl
set_option maxRecDepth 100000 in
theorem wm_552 : (.methodLink RL 34 yX9_rule : Cond) ∈ WS := mw 552 rfl rfl
set_option maxRecDepth 100000 in
theorem wm_553 : (.instanceMethod yX9_rule : Cond) ∈ WS := mw 553 rfl rfl
set_option maxRecDepth 100000 in
theorem wm_554 : (.selects RX9 yX9_rule yX9_rule : Cond) ∈ WS := mw 554 rfl rfl
set_option maxRecDepth 100000 in
theorem wm_555 : (.code yX9_rule cX9_rule 2 (some .int) : Cond) ∈ WS := mw 555 rfl rfl
set_option maxRecDepth 100000 in
theorem wm_556 : (.methodLink RL 38 yX9_hole : Cond) ∈ WS := mw 556 rfl rfl
set_option maxRecDepth 100000 in
theorem wm_557 : (.instanceMethod yX9_hole : Cond) ∈ WS := mw 557 rfl rfl
set_option maxRecDepth 100000 in
theorem wm_558 : (.selects RX9 yX9_hole yX9_hole : Cond) ∈ WS := mw 558 rfl rfl
set_option maxRecDepth 100000 in
theorem wm_559 : (.code yX9_hole cX9_hole 2 (some .int) : Cond) ∈ WS := mw 559 rfl rfl
set_option maxRecDepth 100000 in
theorem wm_560 : (.methodLink RX9 115 yX9_isPlace : Cond) ∈ WS := mw 560 rfl rfl
set_option maxRecDepth 100000 in
theorem wm_562 : (.instanceMethod yX9_isPlace : Cond) ∈ WS := mw 562 rfl rfl
set_option maxRecDepth 100000 in
theorem wm_563 : (.code yX9_isPlace cX9_isPlace 2 (some .boolean) : Cond) ∈ WS := mw 563 rfl rfl
set_option maxRecDepth 100000 in
theorem wm_564 : (.methodLink RL 42 yX9_coin : Cond) ∈ WS := mw 564 rfl rfl
set_option maxRecDepth 100000 in
theorem wm_565 : (.instanceMethod yX9_coin : Cond) ∈ WS := mw 565 rfl rfl
set_option maxRecDepth 100000 in
theorem wm_566 : (.selects RX9 yX9_coin yX9_coin : Cond) ∈ WS := mw 566 rfl rfl
set_option maxRecDepth 100000 in
theorem wm_567 : (.code yX9_coin cX9_coin 4 (some .int) : Cond) ∈ WS := mw 567 rfl rfl
set_option maxRecDepth 100000 in
theorem wm_568 : (.methodLink RX9 123 yX9_isCoin : Cond) ∈ WS := mw 568 rfl rfl
set_option maxRecDepth 100000 in
theorem wm_570 : (.instanceMethod yX9_isCoin : Cond) ∈ WS := mw 570 rfl rfl
set_option maxRecDepth 100000 in
theorem wm_571 : (.code yX9_isCoin cX9_isCoin 2 (some .boolean) : Cond) ∈ WS := mw 571 rfl rfl
set_option maxRecDepth 100000 in
theorem wm_572 : (.methodLink RX9 138 yX9_asNumber : Cond) ∈ WS := mw 572 rfl rfl
set_option maxRecDepth 100000 in
theorem wm_573 : (.methodLink RX9 145 yX0_isRight : Cond) ∈ WS := mw 573 rfl rfl
set_option maxRecDepth 100000 in
theorem wm_574 : (.instanceMethod yX0_isRight : Cond) ∈ WS := mw 574 rfl rfl
set_option maxRecDepth 100000 in
theorem wm_575 : (.selects RX0 yX0_isRight yX0_isRight : Cond) ∈ WS := mw 575 rfl rfl
set_option maxRecDepth 100000 in
theorem wm_576 : (.code yX0_isRight cX0_isRight 3 (some .boolean) : Cond) ∈ WS := mw 576 rfl rfl
set_option maxRecDepth 100000 in
theorem wm_577 : (.methodLink RX0 90 yX0_rightPlace : Cond) ∈ WS := mw 577 rfl rfl
set_option maxRecDepth 100000 in
theorem wm_578 : (.instanceMethod yX0_rightPlace : Cond) ∈ WS := mw 578 rfl rfl
set_option maxRecDepth 100000 in
theorem wm_579 : (.selects RX0 yX0_rightPlace yX0_rightPlace : Cond) ∈ WS := mw 579 rfl rfl
set_option maxRecDepth 100000 in
theorem wm_580 : (.code yX0_rightPlace cX0_rightPlace 4 (some .int) : Cond) ∈ WS := mw 580 rfl rfl
set_option maxRecDepth 100000 in
theorem wm_581 : (.methodLink RL 47 yX9_crab : Cond) ∈ WS := mw 581 rfl rfl
set_option maxRecDepth 100000 in
theorem wm_582 : (.instanceMethod yX9_crab : Cond) ∈ WS := mw 582 rfl rfl
set_option maxRecDepth 100000 in
theorem wm_583 : (.selects RX9 yX9_crab yX9_crab : Cond) ∈ WS := mw 583 rfl rfl
set_option maxRecDepth 100000 in
theorem wm_584 : (.code yX9_crab cX9_crab 4 (some .int) : Cond) ∈ WS := mw 584 rfl rfl
set_option maxRecDepth 100000 in
theorem wm_585 : (.methodLink RX9 149 yX9_isCrab : Cond) ∈ WS := mw 585 rfl rfl
set_option maxRecDepth 100000 in
theorem wm_587 : (.instanceMethod yX9_isCrab : Cond) ∈ WS := mw 587 rfl rfl
set_option maxRecDepth 100000 in
theorem wm_588 : (.code yX9_isCrab cX9_isCrab 2 (some .boolean) : Cond) ∈ WS := mw 588 rfl rfl
set_option maxRecDepth 100000 in
theorem wm_589 : (.methodLink RX9 170 yX2_holds : Cond) ∈ WS := mw 589 rfl rfl
set_option maxRecDepth 100000 in
theorem wm_590 : (.instanceMethod yX2_holds : Cond) ∈ WS := mw 590 rfl rfl
set_option maxRecDepth 100000 in
theorem wm_591 : (.selects RX2 yX2_holds yX2_holds : Cond) ∈ WS := mw 591 rfl rfl
set_option maxRecDepth 100000 in
theorem wm_592 : (.code yX2_holds cX2_holds 1 (some .boolean) : Cond) ∈ WS := mw 592 rfl rfl
set_option maxRecDepth 100000 in
theorem wm_593 : (.methodLink RL 51 yX9_dig : Cond) ∈ WS := mw 593 rfl rfl
set_option maxRecDepth 100000 in
theorem wm_594 : (.instanceMethod yX9_dig : Cond) ∈ WS := mw 594 rfl rfl
set_option maxRecDepth 100000 in
theorem wm_595 : (.selects RX9 yX9_dig yX9_dig : Cond) ∈ WS := mw 595 rfl rfl
set_option maxRecDepth 100000 in
theorem wm_596 : (.code yX9_dig cX9_dig 4 (some .int) : Cond) ∈ WS := mw 596 rfl rfl
set_option maxRecDepth 100000 in
theorem wm_597 : (.methodLink RX9 177 yX0_countBetween : Cond) ∈ WS := mw 597 rfl rfl
set_option maxRecDepth 100000 in
theorem wm_598 : (.instanceMethod yX0_countBetween : Cond) ∈ WS := mw 598 rfl rfl
set_option maxRecDepth 100000 in
theorem wm_599 : (.selects RX0 yX0_countBetween yX0_countBetween : Cond) ∈ WS := mw 599 rfl rfl
set_option maxRecDepth 100000 in
theorem wm_600 : (.code yX0_countBetween cX0_countBetween 5 (some .int) : Cond) ∈ WS := mw 600 rfl rfl
set_option maxRecDepth 100000 in
theorem wm_602 : (.methodLink RL 55 yX9_mint : Cond) ∈ WS := mw 602 rfl rfl
set_option maxRecDepth 100000 in
theorem wm_603 : (.instanceMethod yX9_mint : Cond) ∈ WS := mw 603 rfl rfl
set_option maxRecDepth 100000 in
theorem wm_604 : (.selects RX9 yX9_mint yX9_mint : Cond) ∈ WS := mw 604 rfl rfl
set_option maxRecDepth 100000 in
theorem wm_605 : (.code yX9_mint cX9_mint 3 (some .int) : Cond) ∈ WS := mw 605 rfl rfl
set_option maxRecDepth 100000 in
theorem wm_606 : (.methodLink RX9 181 yX0_addCoin : Cond) ∈ WS := mw 606 rfl rfl
set_option maxRecDepth 100000 in
theorem wm_607 : (.methodLink RL 59 yX9_lie : Cond) ∈ WS := mw 607 rfl rfl
set_option maxRecDepth 100000 in
theorem wm_608 : (.instanceMethod yX9_lie : Cond) ∈ WS := mw 608 rfl rfl
set_option maxRecDepth 100000 in
theorem wm_609 : (.selects RX9 yX9_lie yX9_lie : Cond) ∈ WS := mw 609 rfl rfl
set_option maxRecDepth 100000 in
theorem wm_610 : (.code yX9_lie cX9_lie 4 (some .int) : Cond) ∈ WS := mw 610 rfl rfl
set_option maxRecDepth 100000 in
theorem wm_611 : (.methodLink RX9 185 yX0_layDown : Cond) ∈ WS := mw 611 rfl rfl
set_option maxRecDepth 100000 in
theorem wm_612 : (.instanceMethod yX0_layDown : Cond) ∈ WS := mw 612 rfl rfl
set_option maxRecDepth 100000 in
theorem wm_613 : (.selects RX0 yX0_layDown yX0_layDown : Cond) ∈ WS := mw 613 rfl rfl
set_option maxRecDepth 100000 in
theorem wm_614 : (.code yX0_layDown cX0_layDown 4 none : Cond) ∈ WS := mw 614 rfl rfl
set_option maxRecDepth 100000 in
theorem wm_615 : (.methodLink RL 63 yX9_fake : Cond) ∈ WS := mw 615 rfl rfl
set_option maxRecDepth 100000 in
theorem wm_616 : (.instanceMethod yX9_fake : Cond) ∈ WS := mw 616 rfl rfl
set_option maxRecDepth 100000 in
theorem wm_617 : (.selects RX9 yX9_fake yX9_fake : Cond) ∈ WS := mw 617 rfl rfl
set_option maxRecDepth 100000 in
theorem wm_618 : (.code yX9_fake cX9_fake 4 (some .int) : Cond) ∈ WS := mw 618 rfl rfl
set_option maxRecDepth 100000 in
theorem wm_619 : (.methodLink RL 68 yX9_set : Cond) ∈ WS := mw 619 rfl rfl
set_option maxRecDepth 100000 in
theorem wm_620 : (.instanceMethod yX9_set : Cond) ∈ WS := mw 620 rfl rfl
set_option maxRecDepth 100000 in
theorem wm_621 : (.selects RX9 yX9_set yX9_set : Cond) ∈ WS := mw 621 rfl rfl
set_option maxRecDepth 100000 in
theorem wm_622 : (.code yX9_set cX9_set 4 (some .int) : Cond) ∈ WS := mw 622 rfl rfl
set_option maxRecDepth 100000 in
theorem wm_623 : (.methodLink RL 72 yX9_hand : Cond) ∈ WS := mw 623 rfl rfl
set_option maxRecDepth 100000 in
theorem wm_624 : (.instanceMethod yX9_hand : Cond) ∈ WS := mw 624 rfl rfl
set_option maxRecDepth 100000 in
theorem wm_625 : (.selects RX9 yX9_hand yX9_hand : Cond) ∈ WS := mw 625 rfl rfl
set_option maxRecDepth 100000 in
theorem wm_626 : (.code yX9_hand cX9_hand 4 (some .int) : Cond) ∈ WS := mw 626 rfl rfl
set_option maxRecDepth 100000 in
theorem wm_627 : (.methodLink RL 76 yX9_tide : Cond) ∈ WS := mw 627 rfl rfl
set_option maxRecDepth 100000 in
theorem wm_628 : (.instanceMethod yX9_tide : Cond) ∈ WS := mw 628 rfl rfl
set_option maxRecDepth 100000 in
theorem wm_629 : (.selects RX9 yX9_tide yX9_tide : Cond) ∈ WS := mw 629 rfl rfl
set_option maxRecDepth 100000 in
theorem wm_630 : (.code yX9_tide cX9_tide 4 (some .int) : Cond) ∈ WS := mw 630 rfl rfl
set_option maxRecDepth 100000 in
theorem wm_631 : (.methodLink RL 80 yX9_go : Cond) ∈ WS := mw 631 rfl rfl
set_option maxRecDepth 100000 in
theorem wm_632 : (.instanceMethod yX9_go : Cond) ∈ WS := mw 632 rfl rfl
set_option maxRecDepth 100000 in
theorem wm_633 : (.selects RX9 yX9_go yX9_go : Cond) ∈ WS := mw 633 rfl rfl
set_option maxRecDepth 100000 in
theorem wm_634 : (.code yX9_go cX9_go 2 (some .int) : Cond) ∈ WS := mw 634 rfl rfl
set_option maxRecDepth 100000 in
theorem wm_635 : (.methodLink RX9 188 yX0_goSteps : Cond) ∈ WS := mw 635 rfl rfl
set_option maxRecDepth 100000 in
theorem wm_636 : (.instanceMethod yX0_goSteps : Cond) ∈ WS := mw 636 rfl rfl
set_option maxRecDepth 100000 in
theorem wm_637 : (.selects RX0 yX0_goSteps yX0_goSteps : Cond) ∈ WS := mw 637 rfl rfl
set_option maxRecDepth 100000 in
theorem wm_638 : (.code yX0_goSteps cX0_goSteps 3 none : Cond) ∈ WS := mw 638 rfl rfl
set_option maxRecDepth 100000 in
theorem wm_639 : (.methodLink RX0 107 yX0_goStep : Cond) ∈ WS := mw 639 rfl rfl
set_option maxRecDepth 100000 in
theorem wm_640 : (.instanceMethod yX0_goStep : Cond) ∈ WS := mw 640 rfl rfl
set_option maxRecDepth 100000 in
theorem wm_641 : (.selects RX0 yX0_goStep yX0_goStep : Cond) ∈ WS := mw 641 rfl rfl
set_option maxRecDepth 100000 in
theorem wm_642 : (.code yX0_goStep cX0_goStep 2 none : Cond) ∈ WS := mw 642 rfl rfl
set_option maxRecDepth 100000 in
theorem wm_643 : (.methodLink RX0 110 yX0_act : Cond) ∈ WS := mw 643 rfl rfl
set_option maxRecDepth 100000 in
theorem wm_645 : (.instanceMethod yX0_act : Cond) ∈ WS := mw 645 rfl rfl
set_option maxRecDepth 100000 in
theorem wm_646 : (.code yX0_act cX0_act 4 none : Cond) ∈ WS := mw 646 rfl rfl
set_option maxRecDepth 100000 in
theorem wm_647 : (.methodLink RX0 121 yX2_holds : Cond) ∈ WS := mw 647 rfl rfl
set_option maxRecDepth 100000 in
theorem wm_648 : (.methodLink RX0 125 yX2_walk : Cond) ∈ WS := mw 648 rfl rfl
set_option maxRecDepth 100000 in
theorem wm_649 : (.instanceMethod yX2_walk : Cond) ∈ WS := mw 649 rfl rfl
set_option maxRecDepth 100000 in
theorem wm_650 : (.selects RX2 yX2_walk yX2_walk : Cond) ∈ WS := mw 650 rfl rfl
set_option maxRecDepth 100000 in
theorem wm_651 : (.code yX2_walk cX2_walk 2 none : Cond) ∈ WS := mw 651 rfl rfl
set_option maxRecDepth 100000 in
theorem wm_652 : (.methodLink RX0 128 yX0_firstFitting : Cond) ∈ WS := mw 652 rfl rfl
set_option maxRecDepth 100000 in
theorem wm_654 : (.instanceMethod yX0_firstFitting : Cond) ∈ WS := mw 654 rfl rfl
set_option maxRecDepth 100000 in
theorem wm_655 : (.code yX0_firstFitting cX0_firstFitting 3 (some .int) : Cond) ∈ WS := mw 655 rfl rfl
set_option maxRecDepth 100000 in
theorem wm_656 : (.methodLink RX0 132 yX2_isFitBy : Cond) ∈ WS := mw 656 rfl rfl
set_option maxRecDepth 100000 in
theorem wm_657 : (.instanceMethod yX2_isFitBy : Cond) ∈ WS := mw 657 rfl rfl
set_option maxRecDepth 100000 in
theorem wm_658 : (.selects RX2 yX2_isFitBy yX2_isFitBy : Cond) ∈ WS := mw 658 rfl rfl
set_option maxRecDepth 100000 in
theorem wm_659 : (.code yX2_isFitBy cX2_isFitBy 2 (some .boolean) : Cond) ∈ WS := mw 659 rfl rfl
set_option maxRecDepth 100000 in
theorem wm_660 : (.methodLink RX0 114 yX0_settleFights : Cond) ∈ WS := mw 660 rfl rfl
set_option maxRecDepth 100000 in
theorem wm_662 : (.instanceMethod yX0_settleFights : Cond) ∈ WS := mw 662 rfl rfl
set_option maxRecDepth 100000 in
theorem wm_663 : (.code yX0_settleFights cX0_settleFights 3 none : Cond) ∈ WS := mw 663 rfl rfl
set_option maxRecDepth 100000 in
theorem wm_664 : (.methodLink RX0 135 yX0_losesFight : Cond) ∈ WS := mw 664 rfl rfl
set_option maxRecDepth 100000 in
theorem wm_666 : (.instanceMethod yX0_losesFight : Cond) ∈ WS := mw 666 rfl rfl
set_option maxRecDepth 100000 in
theorem wm_667 : (.code yX0_losesFight cX0_losesFight 5 (some .boolean) : Cond) ∈ WS := mw 667 rfl rfl
set_option maxRecDepth 100000 in
theorem wm_668 : (.methodLink RX0 117 yX0_washAway : Cond) ∈ WS := mw 668 rfl rfl
set_option maxRecDepth 100000 in
theorem wm_669 : (.instanceMethod yX0_washAway : Cond) ∈ WS := mw 669 rfl rfl
set_option maxRecDepth 100000 in
theorem wm_670 : (.selects RX0 yX0_washAway yX0_washAway : Cond) ∈ WS := mw 670 rfl rfl
set_option maxRecDepth 100000 in
theorem wm_671 : (.code yX0_washAway cX0_washAway 4 none : Cond) ∈ WS := mw 671 rfl rfl
set_option maxRecDepth 100000 in
theorem wm_672 : (.methodLink RX9 192 yX0_countRight : Cond) ∈ WS := mw 672 rfl rfl
set_option maxRecDepth 100000 in
theorem wm_673 : (.instanceMethod yX0_countRight : Cond) ∈ WS := mw 673 rfl rfl
set_option maxRecDepth 100000 in
theorem wm_674 : (.selects RX0 yX0_countRight yX0_countRight : Cond) ∈ WS := mw 674 rfl rfl
set_option maxRecDepth 100000 in
theorem wm_675 : (.code yX0_countRight cX0_countRight 3 (some .int) : Cond) ∈ WS := mw 675 rfl rfl
set_option maxRecDepth 100000 in
theorem wm_676 : (.methodLink RX0 94 yX0_isRight : Cond) ∈ WS := mw 676 rfl rfl
set_option maxRecDepth 100000 in
theorem wm_677 : (.methodLink RL 84 yX9_ahead : Cond) ∈ WS := mw 677 rfl rfl
set_option maxRecDepth 100000 in
theorem wm_678 : (.instanceMethod yX9_ahead : Cond) ∈ WS := mw 678 rfl rfl
set_option maxRecDepth 100000 in
theorem wm_679 : (.selects RX9 yX9_ahead yX9_ahead : Cond) ∈ WS := mw 679 rfl rfl
set_option maxRecDepth 100000 in
theorem wm_680 : (.code yX9_ahead cX9_ahead 3 (some .int) : Cond) ∈ WS := mw 680 rfl rfl
set_option maxRecDepth 100000 in
theorem wm_681 : (.methodLink RL 88 yX9_grow : Cond) ∈ WS := mw 681 rfl rfl
set_option maxRecDepth 100000 in
theorem wm_682 : (.instanceMethod yX9_grow : Cond) ∈ WS := mw 682 rfl rfl
set_option maxRecDepth 100000 in
theorem wm_683 : (.selects RX9 yX9_grow yX9_grow : Cond) ∈ WS := mw 683 rfl rfl
set_option maxRecDepth 100000 in
theorem wm_684 : (.code yX9_grow cX9_grow 1 (some .int) : Cond) ∈ WS := mw 684 rfl rfl
set_option maxRecDepth 100000 in
theorem wm_685 : (.methodLink RX9 195 yX0_growWeeks : Cond) ∈ WS := mw 685 rfl rfl
set_option maxRecDepth 100000 in
theorem wm_686 : (.instanceMethod yX0_growWeeks : Cond) ∈ WS := mw 686 rfl rfl
set_option maxRecDepth 100000 in
theorem wm_687 : (.selects RX0 yX0_growWeeks yX0_growWeeks : Cond) ∈ WS := mw 687 rfl rfl
set_option maxRecDepth 100000 in
theorem wm_688 : (.code yX0_growWeeks cX0_growWeeks 3 none : Cond) ∈ WS := mw 688 rfl rfl
set_option maxRecDepth 100000 in
theorem wm_689 : (.methodLink RX0 98 yJ9_min_7cf53 : Cond) ∈ WS := mw 689 rfl rfl
set_option maxRecDepth 100000 in
theorem wm_690 : (.static yJ9_min_7cf53 : Cond) ∈ WS := mw 690 rfl rfl
set_option maxRecDepth 100000 in
theorem wm_691 : (.code yJ9_min_7cf53 cJ9_min_7cf53 2 (some .int) : Cond) ∈ WS := mw 691 rfl rfl
set_option maxRecDepth 100000 in
theorem wm_692 : (.methodLink RX9 198 yX0_greatestClaw : Cond) ∈ WS := mw 692 rfl rfl
set_option maxRecDepth 100000 in
theorem wm_693 : (.instanceMethod yX0_greatestClaw : Cond) ∈ WS := mw 693 rfl rfl
set_option maxRecDepth 100000 in
theorem wm_694 : (.selects RX0 yX0_greatestClaw yX0_greatestClaw : Cond) ∈ WS := mw 694 rfl rfl
set_option maxRecDepth 100000 in
theorem wm_695 : (.code yX0_greatestClaw cX0_greatestClaw 3 (some .int) : Cond) ∈ WS := mw 695 rfl rfl
set_option maxRecDepth 100000 in
theorem wm_696 : (.methodLink RX0 104 yJ9_max_7cf53 : Cond) ∈ WS := mw 696 rfl rfl
set_option maxRecDepth 100000 in
theorem wm_697 : (.static yJ9_max_7cf53 : Cond) ∈ WS := mw 697 rfl rfl
set_option maxRecDepth 100000 in
theorem wm_698 : (.code yJ9_max_7cf53 cJ9_max_7cf53 2 (some .int) : Cond) ∈ WS := mw 698 rfl rfl
set_option maxRecDepth 100000 in
theorem wm_699 : (.methodLink RL 92 yX9_sorted : Cond) ∈ WS := mw 699 rfl rfl
set_option maxRecDepth 100000 in
theorem wm_700 : (.instanceMethod yX9_sorted : Cond) ∈ WS := mw 700 rfl rfl
set_option maxRecDepth 100000 in
theorem wm_701 : (.selects RX9 yX9_sorted yX9_sorted : Cond) ∈ WS := mw 701 rfl rfl
set_option maxRecDepth 100000 in
theorem wm_702 : (.code yX9_sorted cX9_sorted 1 (some .int) : Cond) ∈ WS := mw 702 rfl rfl
set_option maxRecDepth 100000 in
theorem wm_703 : (.methodLink RX9 201 yX0_stepsUntilSorted : Cond) ∈ WS := mw 703 rfl rfl
set_option maxRecDepth 100000 in
theorem wm_704 : (.instanceMethod yX0_stepsUntilSorted : Cond) ∈ WS := mw 704 rfl rfl
set_option maxRecDepth 100000 in
theorem wm_705 : (.selects RX0 yX0_stepsUntilSorted yX0_stepsUntilSorted : Cond) ∈ WS := mw 705 rfl rfl
set_option maxRecDepth 100000 in
theorem wm_706 : (.code yX0_stepsUntilSorted cX0_stepsUntilSorted 4 (some .int) : Cond) ∈ WS := mw 706 rfl rfl
set_option maxRecDepth 100000 in
theorem wm_707 : (.methodLink RX0 142 yX0_openCoins : Cond) ∈ WS := mw 707 rfl rfl
set_option maxRecDepth 100000 in
theorem wm_709 : (.instanceMethod yX0_openCoins : Cond) ∈ WS := mw 709 rfl rfl
set_option maxRecDepth 100000 in
theorem wm_710 : (.code yX0_openCoins cX0_openCoins 4 (some .int) : Cond) ∈ WS := mw 710 rfl rfl
set_option maxRecDepth 100000 in
theorem wm_711 : (.methodLink RL 96 yX9_orders : Cond) ∈ WS := mw 711 rfl rfl
set_option maxRecDepth 100000 in
theorem wm_712 : (.instanceMethod yX9_orders : Cond) ∈ WS := mw 712 rfl rfl
set_option maxRecDepth 100000 in
theorem wm_713 : (.selects RX9 yX9_orders yX9_orders : Cond) ∈ WS := mw 713 rfl rfl
set_option maxRecDepth 100000 in
theorem wm_714 : (.code yX9_orders cX9_orders 3 (some .int) : Cond) ∈ WS := mw 714 rfl rfl
set_option maxRecDepth 100000 in
theorem wm_715 : (.methodLink RX9 205 yX4_tryAll : Cond) ∈ WS := mw 715 rfl rfl
set_option maxRecDepth 100000 in
theorem wm_716 : (.instanceMethod yX4_tryAll : Cond) ∈ WS := mw 716 rfl rfl
set_option maxRecDepth 100000 in
theorem wm_717 : (.selects RX4 yX4_tryAll yX4_tryAll : Cond) ∈ WS := mw 717 rfl rfl
set_option maxRecDepth 100000 in
theorem wm_718 : (.code yX4_tryAll cX4_tryAll 5 none : Cond) ∈ WS := mw 718 rfl rfl
set_option maxRecDepth 100000 in
theorem wm_719 : (.methodLink RX4 25 yX0_copyFrom : Cond) ∈ WS := mw 719 rfl rfl
set_option maxRecDepth 100000 in
theorem wm_720 : (.methodLink RX4 32 yX4_copyOrder : Cond) ∈ WS := mw 720 rfl rfl
set_option maxRecDepth 100000 in
theorem wm_721 : (.static yX4_copyOrder : Cond) ∈ WS := mw 721 rfl rfl
set_option maxRecDepth 100000 in
theorem wm_722 : (.code yX4_copyOrder cX4_copyOrder 3 none : Cond) ∈ WS := mw 722 rfl rfl
set_option maxRecDepth 100000 in
theorem wm_723 : (.methodLink RX4 36 yX0_stepsUntilSorted : Cond) ∈ WS := mw 723 rfl rfl
set_option maxRecDepth 100000 in
theorem wm_724 : (.methodLink RX4 40 yX4_note : Cond) ∈ WS := mw 724 rfl rfl
set_option maxRecDepth 100000 in
theorem wm_726 : (.instanceMethod yX4_note : Cond) ∈ WS := mw 726 rfl rfl
set_option maxRecDepth 100000 in
theorem wm_727 : (.code yX4_note cX4_note 2 none : Cond) ∈ WS := mw 727 rfl rfl
set_option maxRecDepth 100000 in
theorem wm_728 : (.methodLink RX4 47 yX4_turnToNext : Cond) ∈ WS := mw 728 rfl rfl
set_option maxRecDepth 100000 in
theorem wm_730 : (.instanceMethod yX4_turnToNext : Cond) ∈ WS := mw 730 rfl rfl
set_option maxRecDepth 100000 in
theorem wm_731 : (.code yX4_turnToNext cX4_turnToNext 6 (some .boolean) : Cond) ∈ WS := mw 731 rfl rfl
set_option maxRecDepth 100000 in
theorem wm_732 : (.methodLink RX4 51 yX4_swap : Cond) ∈ WS := mw 732 rfl rfl
set_option maxRecDepth 100000 in
theorem wm_734 : (.instanceMethod yX4_swap : Cond) ∈ WS := mw 734 rfl rfl
set_option maxRecDepth 100000 in
theorem wm_735 : (.code yX4_swap cX4_swap 4 none : Cond) ∈ WS := mw 735 rfl rfl
set_option maxRecDepth 100000 in
theorem wm_736 : (.methodLink RL 100 yX9_fewest : Cond) ∈ WS := mw 736 rfl rfl
set_option maxRecDepth 100000 in
theorem wm_737 : (.instanceMethod yX9_fewest : Cond) ∈ WS := mw 737 rfl rfl
set_option maxRecDepth 100000 in
theorem wm_738 : (.selects RX9 yX9_fewest yX9_fewest : Cond) ∈ WS := mw 738 rfl rfl
set_option maxRecDepth 100000 in
theorem wm_739 : (.code yX9_fewest cX9_fewest 5 (some .int) : Cond) ∈ WS := mw 739 rfl rfl
set_option maxRecDepth 100000 in
theorem wm_740 : (.methodLink RX9 216 yJ6_bitCount_0f7a4 : Cond) ∈ WS := mw 740 rfl rfl
set_option maxRecDepth 100000 in
theorem wm_741 : (.static yJ6_bitCount_0f7a4 : Cond) ∈ WS := mw 741 rfl rfl
set_option maxRecDepth 100000 in
theorem wm_742 : (.code yJ6_bitCount_0f7a4 cJ6_bitCount_0f7a4 1 (some .int) : Cond) ∈ WS := mw 742 rfl rfl
set_option maxRecDepth 100000 in
theorem wm_743 : (.constant RJ6 265 (1431655765) : Cond) ∈ WS := mw 743 rfl rfl
set_option maxRecDepth 100000 in
theorem wm_744 : (.constant RJ6 266 (858993459) : Cond) ∈ WS := mw 744 rfl rfl
set_option maxRecDepth 100000 in
theorem wm_745 : (.constant RJ6 267 (252645135) : Cond) ∈ WS := mw 745 rfl rfl
set_option maxRecDepth 100000 in
theorem wm_746 : (.methodLink RX9 221 yX9_isSortedBy : Cond) ∈ WS := mw 746 rfl rfl
set_option maxRecDepth 100000 in
theorem wm_748 : (.instanceMethod yX9_isSortedBy : Cond) ∈ WS := mw 748 rfl rfl
set_option maxRecDepth 100000 in
theorem wm_749 : (.code yX9_isSortedBy cX9_isSortedBy 2 (some .boolean) : Cond) ∈ WS := mw 749 rfl rfl
set_option maxRecDepth 100000 in
theorem wm_750 : (.methodLink RX9 294 yX0_sendAwayAllBut : Cond) ∈ WS := mw 750 rfl rfl
set_option maxRecDepth 100000 in
theorem wm_751 : (.instanceMethod yX0_sendAwayAllBut : Cond) ∈ WS := mw 751 rfl rfl
set_option maxRecDepth 100000 in
theorem wm_752 : (.selects RX0 yX0_sendAwayAllBut yX0_sendAwayAllBut : Cond) ∈ WS := mw 752 rfl rfl
set_option maxRecDepth 100000 in
theorem wm_753 : (.code yX0_sendAwayAllBut cX0_sendAwayAllBut 3 none : Cond) ∈ WS := mw 753 rfl rfl
set_option maxRecDepth 100000 in
theorem wm_754 : (.methodLink RL 104 yX9_better : Cond) ∈ WS := mw 754 rfl rfl
set_option maxRecDepth 100000 in
theorem wm_755 : (.instanceMethod yX9_better : Cond) ∈ WS := mw 755 rfl rfl
set_option maxRecDepth 100000 in
theorem wm_756 : (.selects RX9 yX9_better yX9_better : Cond) ∈ WS := mw 756 rfl rfl
set_option maxRecDepth 100000 in
theorem wm_757 : (.code yX9_better cX9_better 8 (some .int) : Cond) ∈ WS := mw 757 rfl rfl
set_option maxRecDepth 100000 in
theorem wm_758 : (.methodLink RX9 224 yX9_stepsWithHole : Cond) ∈ WS := mw 758 rfl rfl
set_option maxRecDepth 100000 in
theorem wm_760 : (.instanceMethod yX9_stepsWithHole : Cond) ∈ WS := mw 760 rfl rfl
set_option maxRecDepth 100000 in
theorem wm_761 : (.code yX9_stepsWithHole cX9_stepsWithHole 4 (some .int) : Cond) ∈ WS := mw 761 rfl rfl
set_option maxRecDepth 100000 in
theorem wm_762 : (.methodLink RL 108 yX9_weeks : Cond) ∈ WS := mw 762 rfl rfl
set_option maxRecDepth 100000 in
theorem wm_763 : (.instanceMethod yX9_weeks : Cond) ∈ WS := mw 763 rfl rfl
set_option maxRecDepth 100000 in
theorem wm_764 : (.selects RX9 yX9_weeks yX9_weeks : Cond) ∈ WS := mw 764 rfl rfl
set_option maxRecDepth 100000 in
theorem wm_765 : (.code yX9_weeks cX9_weeks 3 (some .int) : Cond) ∈ WS := mw 765 rfl rfl
set_option maxRecDepth 100000 in
theorem wm_766 : (.methodLink RL 112 yX9_see : Cond) ∈ WS := mw 766 rfl rfl
set_option maxRecDepth 100000 in
theorem wm_767 : (.instanceMethod yX9_see : Cond) ∈ WS := mw 767 rfl rfl
set_option maxRecDepth 100000 in
theorem wm_768 : (.selects RX9 yX9_see yX9_see : Cond) ∈ WS := mw 768 rfl rfl
set_option maxRecDepth 100000 in
theorem wm_769 : (.code yX9_see cX9_see 5 (some .int) : Cond) ∈ WS := mw 769 rfl rfl
set_option maxRecDepth 100000 in
theorem wm_770 : (.methodLink RX9 228 yX9_isWhere : Cond) ∈ WS := mw 770 rfl rfl
set_option maxRecDepth 100000 in
theorem wm_771 : (.static yX9_isWhere : Cond) ∈ WS := mw 771 rfl rfl
set_option maxRecDepth 100000 in
theorem wm_772 : (.code yX9_isWhere cX9_isWhere 1 (some .boolean) : Cond) ∈ WS := mw 772 rfl rfl
set_option maxRecDepth 100000 in
theorem wm_773 : (.methodLink RX9 231 yX6_add : Cond) ∈ WS := mw 773 rfl rfl
set_option maxRecDepth 100000 in
theorem wm_774 : (.instanceMethod yX6_add : Cond) ∈ WS := mw 774 rfl rfl
set_option maxRecDepth 100000 in
theorem wm_775 : (.selects RX6 yX6_add yX6_add : Cond) ∈ WS := mw 775 rfl rfl
set_option maxRecDepth 100000 in
theorem wm_776 : (.code yX6_add cX6_add 5 none : Cond) ∈ WS := mw 776 rfl rfl
set_option maxRecDepth 100000 in
theorem wm_777 : (.methodLink RL 117 yX9_forget : Cond) ∈ WS := mw 777 rfl rfl
set_option maxRecDepth 100000 in
theorem wm_778 : (.instanceMethod yX9_forget : Cond) ∈ WS := mw 778 rfl rfl
set_option maxRecDepth 100000 in
theorem wm_779 : (.selects RX9 yX9_forget yX9_forget : Cond) ∈ WS := mw 779 rfl rfl
set_option maxRecDepth 100000 in
theorem wm_780 : (.code yX9_forget cX9_forget 3 (some .int) : Cond) ∈ WS := mw 780 rfl rfl
set_option maxRecDepth 100000 in
theorem wm_781 : (.methodLink RL 121 yX9_fakes : Cond) ∈ WS := mw 781 rfl rfl
set_option maxRecDepth 100000 in
theorem wm_782 : (.instanceMethod yX9_fakes : Cond) ∈ WS := mw 782 rfl rfl
set_option maxRecDepth 100000 in
theorem wm_783 : (.selects RX9 yX9_fakes yX9_fakes : Cond) ∈ WS := mw 783 rfl rfl
set_option maxRecDepth 100000 in
theorem wm_784 : (.code yX9_fakes cX9_fakes 8 (some .int) : Cond) ∈ WS := mw 784 rfl rfl
set_option maxRecDepth 100000 in
theorem wm_785 : (.methodLink RX9 235 yX9_isSeenWithFalse : Cond) ∈ WS := mw 785 rfl rfl
set_option maxRecDepth 100000 in
theorem wm_787 : (.instanceMethod yX9_isSeenWithFalse : Cond) ∈ WS := mw 787 rfl rfl
set_option maxRecDepth 100000 in
theorem wm_788 : (.code yX9_isSeenWithFalse cX9_isSeenWithFalse 3 (some .boolean) : Cond) ∈ WS := mw 788 rfl rfl
set_option maxRecDepth 100000 in
theorem wm_789 : (.methodLink RX9 238 yX6_holdFor : Cond) ∈ WS := mw 789 rfl rfl
set_option maxRecDepth 100000 in
theorem wm_790 : (.instanceMethod yX6_holdFor : Cond) ∈ WS := mw 790 rfl rfl
set_option maxRecDepth 100000 in
theorem wm_791 : (.selects RX6 yX6_holdFor yX6_holdFor : Cond) ∈ WS := mw 791 rfl rfl
set_option maxRecDepth 100000 in
theorem wm_792 : (.code yX6_holdFor cX6_holdFor 4 (some .boolean) : Cond) ∈ WS := mw 792 rfl rfl
set_option maxRecDepth 100000 in
theorem wm_793 : (.methodLink RX6 29 yX6_lastStep : Cond) ∈ WS := mw 793 rfl rfl
set_option maxRecDepth 100000 in
theorem wm_795 : (.instanceMethod yX6_lastStep : Cond) ∈ WS := mw 795 rfl rfl
set_option maxRecDepth 100000 in
theorem wm_796 : (.code yX6_lastStep cX6_lastStep 3 (some .int) : Cond) ∈ WS := mw 796 rfl rfl
set_option maxRecDepth 100000 in
theorem wm_797 : (.methodLink RX6 42 yJ9_max_7cf53 : Cond) ∈ WS := mw 797 rfl rfl
set_option maxRecDepth 100000 in
theorem wm_798 : (.methodLink RX6 33 yX6_holdAt : Cond) ∈ WS := mw 798 rfl rfl
set_option maxRecDepth 100000 in
theorem wm_800 : (.instanceMethod yX6_holdAt : Cond) ∈ WS := mw 800 rfl rfl
set_option maxRecDepth 100000 in
theorem wm_801 : (.code yX6_holdAt cX6_holdAt 4 (some .boolean) : Cond) ∈ WS := mw 801 rfl rfl
set_option maxRecDepth 100000 in
theorem wm_802 : (.methodLink RX6 37 yX0_goStep : Cond) ∈ WS := mw 802 rfl rfl
set_option maxRecDepth 100000 in
theorem wm_803 : (.methodLink RL 125 yX9_wrong : Cond) ∈ WS := mw 803 rfl rfl
set_option maxRecDepth 100000 in
theorem wm_804 : (.instanceMethod yX9_wrong : Cond) ∈ WS := mw 804 rfl rfl
set_option maxRecDepth 100000 in
theorem wm_805 : (.selects RX9 yX9_wrong yX9_wrong : Cond) ∈ WS := mw 805 rfl rfl
set_option maxRecDepth 100000 in
theorem wm_806 : (.code yX9_wrong cX9_wrong 3 (some .int) : Cond) ∈ WS := mw 806 rfl rfl
set_option maxRecDepth 100000 in
theorem wm_807 : (.methodLink RL 129 yX9_gulls : Cond) ∈ WS := mw 807 rfl rfl
set_option maxRecDepth 100000 in
theorem wm_808 : (.instanceMethod yX9_gulls : Cond) ∈ WS := mw 808 rfl rfl
set_option maxRecDepth 100000 in
theorem wm_809 : (.selects RX9 yX9_gulls yX9_gulls : Cond) ∈ WS := mw 809 rfl rfl
set_option maxRecDepth 100000 in
theorem wm_810 : (.code yX9_gulls cX9_gulls 6 (some .int) : Cond) ∈ WS := mw 810 rfl rfl
set_option maxRecDepth 100000 in
theorem wm_811 : (.constant RX9 242 (1103515245) : Cond) ∈ WS := mw 811 rfl rfl
set_option maxRecDepth 100000 in
theorem wm_812 : (.methodLink RX9 243 yX0_comeGulls : Cond) ∈ WS := mw 812 rfl rfl
set_option maxRecDepth 100000 in
theorem wm_813 : (.instanceMethod yX0_comeGulls : Cond) ∈ WS := mw 813 rfl rfl
set_option maxRecDepth 100000 in
theorem wm_814 : (.selects RX0 yX0_comeGulls yX0_comeGulls : Cond) ∈ WS := mw 814 rfl rfl
set_option maxRecDepth 100000 in
theorem wm_815 : (.code yX0_comeGulls cX0_comeGulls 3 none : Cond) ∈ WS := mw 815 rfl rfl
set_option maxRecDepth 100000 in
theorem wm_816 : (.methodLink RX9 246 yX0_goStep : Cond) ∈ WS := mw 816 rfl rfl
set_option maxRecDepth 100000 in
theorem wm_817 : (.methodLink RL 134 yX9_keep : Cond) ∈ WS := mw 817 rfl rfl
set_option maxRecDepth 100000 in
theorem wm_818 : (.instanceMethod yX9_keep : Cond) ∈ WS := mw 818 rfl rfl
set_option maxRecDepth 100000 in
theorem wm_819 : (.selects RX9 yX9_keep yX9_keep : Cond) ∈ WS := mw 819 rfl rfl
set_option maxRecDepth 100000 in
theorem wm_820 : (.code yX9_keep cX9_keep 3 (some .int) : Cond) ∈ WS := mw 820 rfl rfl
set_option maxRecDepth 100000 in
theorem wm_821 : (.methodLink RX9 249 yX9_isImage : Cond) ∈ WS := mw 821 rfl rfl
set_option maxRecDepth 100000 in
theorem wm_822 : (.static yX9_isImage : Cond) ∈ WS := mw 822 rfl rfl
set_option maxRecDepth 100000 in
theorem wm_823 : (.code yX9_isImage cX9_isImage 1 (some .boolean) : Cond) ∈ WS := mw 823 rfl rfl
set_option maxRecDepth 100000 in
theorem wm_824 : (.methodLink RX9 252 yX3_take : Cond) ∈ WS := mw 824 rfl rfl
set_option maxRecDepth 100000 in
theorem wm_825 : (.instanceMethod yX3_take : Cond) ∈ WS := mw 825 rfl rfl
set_option maxRecDepth 100000 in
theorem wm_826 : (.selects RX3 yX3_take yX3_take : Cond) ∈ WS := mw 826 rfl rfl
set_option maxRecDepth 100000 in
theorem wm_827 : (.code yX3_take cX3_take 3 none : Cond) ∈ WS := mw 827 rfl rfl
set_option maxRecDepth 100000 in
theorem wm_828 : (.methodLink RX3 27 yX0_copyFrom : Cond) ∈ WS := mw 828 rfl rfl
set_option maxRecDepth 100000 in
theorem wm_829 : (.methodLink RX3 31 yX6_copyFrom : Cond) ∈ WS := mw 829 rfl rfl
set_option maxRecDepth 100000 in
theorem wm_830 : (.instanceMethod yX6_copyFrom : Cond) ∈ WS := mw 830 rfl rfl
set_option maxRecDepth 100000 in
theorem wm_831 : (.selects RX6 yX6_copyFrom yX6_copyFrom : Cond) ∈ WS := mw 831 rfl rfl
set_option maxRecDepth 100000 in
theorem wm_832 : (.code yX6_copyFrom cX6_copyFrom 3 none : Cond) ∈ WS := mw 832 rfl rfl
set_option maxRecDepth 100000 in
theorem wm_833 : (.methodLink RL 138 yX9_back : Cond) ∈ WS := mw 833 rfl rfl
set_option maxRecDepth 100000 in
theorem wm_834 : (.instanceMethod yX9_back : Cond) ∈ WS := mw 834 rfl rfl
set_option maxRecDepth 100000 in
theorem wm_835 : (.selects RX9 yX9_back yX9_back : Cond) ∈ WS := mw 835 rfl rfl
set_option maxRecDepth 100000 in
theorem wm_836 : (.code yX9_back cX9_back 2 (some .int) : Cond) ∈ WS := mw 836 rfl rfl
set_option maxRecDepth 100000 in
theorem wm_837 : (.methodLink RX9 260 yX6_copyFrom : Cond) ∈ WS := mw 837 rfl rfl
set_option maxRecDepth 100000 in
theorem wm_838 : (.methodLink RL 142 yX9_sheet : Cond) ∈ WS := mw 838 rfl rfl
set_option maxRecDepth 100000 in
theorem wm_839 : (.instanceMethod yX9_sheet : Cond) ∈ WS := mw 839 rfl rfl
set_option maxRecDepth 100000 in
theorem wm_840 : (.selects RX9 yX9_sheet yX9_sheet : Cond) ∈ WS := mw 840 rfl rfl
set_option maxRecDepth 100000 in
theorem wm_841 : (.code yX9_sheet cX9_sheet 4 (some .int) : Cond) ∈ WS := mw 841 rfl rfl
set_option maxRecDepth 100000 in
theorem wm_842 : (.methodLink RX9 263 yX9_isSheet : Cond) ∈ WS := mw 842 rfl rfl
set_option maxRecDepth 100000 in
theorem wm_843 : (.static yX9_isSheet : Cond) ∈ WS := mw 843 rfl rfl
set_option maxRecDepth 100000 in
theorem wm_844 : (.code yX9_isSheet cX9_isSheet 1 (some .boolean) : Cond) ∈ WS := mw 844 rfl rfl
set_option maxRecDepth 100000 in
theorem wm_845 : (.methodLink RX9 266 yX9_isLane : Cond) ∈ WS := mw 845 rfl rfl
set_option maxRecDepth 100000 in
theorem wm_846 : (.static yX9_isLane : Cond) ∈ WS := mw 846 rfl rfl
set_option maxRecDepth 100000 in
theorem wm_847 : (.code yX9_isLane cX9_isLane 1 (some .boolean) : Cond) ∈ WS := mw 847 rfl rfl
set_option maxRecDepth 100000 in
theorem wm_848 : (.methodLink RX9 269 yX5_renew : Cond) ∈ WS := mw 848 rfl rfl
set_option maxRecDepth 100000 in
theorem wm_849 : (.instanceMethod yX5_renew : Cond) ∈ WS := mw 849 rfl rfl
set_option maxRecDepth 100000 in
theorem wm_850 : (.selects RX5 yX5_renew yX5_renew : Cond) ∈ WS := mw 850 rfl rfl
set_option maxRecDepth 100000 in
theorem wm_851 : (.code yX5_renew cX5_renew 4 none : Cond) ∈ WS := mw 851 rfl rfl
set_option maxRecDepth 100000 in
theorem wm_852 : (.methodLink RL 146 yX9_lay : Cond) ∈ WS := mw 852 rfl rfl
set_option maxRecDepth 100000 in
theorem wm_853 : (.instanceMethod yX9_lay : Cond) ∈ WS := mw 853 rfl rfl
set_option maxRecDepth 100000 in
theorem wm_854 : (.selects RX9 yX9_lay yX9_lay : Cond) ∈ WS := mw 854 rfl rfl
set_option maxRecDepth 100000 in
theorem wm_855 : (.code yX9_lay cX9_lay 5 (some .int) : Cond) ∈ WS := mw 855 rfl rfl
set_option maxRecDepth 100000 in
theorem wm_856 : (.methodLink RX9 272 yX5_faultAt : Cond) ∈ WS := mw 856 rfl rfl
set_option maxRecDepth 100000 in
theorem wm_857 : (.instanceMethod yX5_faultAt : Cond) ∈ WS := mw 857 rfl rfl
set_option maxRecDepth 100000 in
theorem wm_858 : (.selects RX5 yX5_faultAt yX5_faultAt : Cond) ∈ WS := mw 858 rfl rfl
set_option maxRecDepth 100000 in
theorem wm_859 : (.code yX5_faultAt cX5_faultAt 2 (some .int) : Cond) ∈ WS := mw 859 rfl rfl
set_option maxRecDepth 100000 in
theorem wm_861 : (.methodLink RX9 275 yX5_put : Cond) ∈ WS := mw 861 rfl rfl
set_option maxRecDepth 100000 in
theorem wm_862 : (.instanceMethod yX5_put : Cond) ∈ WS := mw 862 rfl rfl
set_option maxRecDepth 100000 in
theorem wm_863 : (.selects RX5 yX5_put yX5_put : Cond) ∈ WS := mw 863 rfl rfl
set_option maxRecDepth 100000 in
theorem wm_864 : (.code yX5_put cX5_put 3 none : Cond) ∈ WS := mw 864 rfl rfl
set_option maxRecDepth 100000 in
theorem wm_865 : (.methodLink RX5 26 yX5_faultAt : Cond) ∈ WS := mw 865 rfl rfl
set_option maxRecDepth 100000 in
theorem wm_866 : (.methodLink RL 150 yX9_read : Cond) ∈ WS := mw 866 rfl rfl
set_option maxRecDepth 100000 in
theorem wm_867 : (.instanceMethod yX9_read : Cond) ∈ WS := mw 867 rfl rfl
set_option maxRecDepth 100000 in
theorem wm_868 : (.selects RX9 yX9_read yX9_read : Cond) ∈ WS := mw 868 rfl rfl
set_option maxRecDepth 100000 in
theorem wm_869 : (.code yX9_read cX9_read 10 (some .int) : Cond) ∈ WS := mw 869 rfl rfl
set_option maxRecDepth 100000 in
theorem wm_870 : (.methodLink RX9 278 yX5_faultAtPair : Cond) ∈ WS := mw 870 rfl rfl
set_option maxRecDepth 100000 in
theorem wm_871 : (.instanceMethod yX5_faultAtPair : Cond) ∈ WS := mw 871 rfl rfl
set_option maxRecDepth 100000 in
theorem wm_872 : (.selects RX5 yX5_faultAtPair yX5_faultAtPair : Cond) ∈ WS := mw 872 rfl rfl
set_option maxRecDepth 100000 in
theorem wm_873 : (.code yX5_faultAtPair cX5_faultAtPair 4 (some .int) : Cond) ∈ WS := mw 873 rfl rfl
set_option maxRecDepth 100000 in
theorem wm_874 : (.methodLink RX9 284 yX9_mint : Cond) ∈ WS := mw 874 rfl rfl
set_option maxRecDepth 100000 in
theorem wm_875 : (.methodLink RL 155 yX9_torn : Cond) ∈ WS := mw 875 rfl rfl
set_option maxRecDepth 100000 in
theorem wm_876 : (.instanceMethod yX9_torn : Cond) ∈ WS := mw 876 rfl rfl
set_option maxRecDepth 100000 in
theorem wm_877 : (.selects RX9 yX9_torn yX9_torn : Cond) ∈ WS := mw 877 rfl rfl
set_option maxRecDepth 100000 in
theorem wm_878 : (.code yX9_torn cX9_torn 1 (some .int) : Cond) ∈ WS := mw 878 rfl rfl
set_option maxRecDepth 100000 in
theorem wm_879 : (.methodLink RL 159 yX9_count : Cond) ∈ WS := mw 879 rfl rfl
set_option maxRecDepth 100000 in
theorem wm_880 : (.instanceMethod yX9_count : Cond) ∈ WS := mw 880 rfl rfl
set_option maxRecDepth 100000 in
theorem wm_881 : (.selects RX9 yX9_count yX9_count : Cond) ∈ WS := mw 881 rfl rfl
set_option maxRecDepth 100000 in
theorem wm_882 : (.code yX9_count cX9_count 2 (some .int) : Cond) ∈ WS := mw 882 rfl rfl
set_option maxRecDepth 100000 in
theorem wm_885 : (.methodLink RL 12 yX10_init : Cond) ∈ WS := mw 885 rfl rfl
set_option maxRecDepth 100000 in
theorem wm_886 : (.instanceMethod yX10_init : Cond) ∈ WS := mw 886 rfl rfl
set_option maxRecDepth 100000 in
theorem wm_887 : (.code yX10_init cX10_init 2 none : Cond) ∈ WS := mw 887 rfl rfl
set_option maxRecDepth 100000 in
theorem wm_888 : (.methodLink RX10 1 objectInit : Cond) ∈ WS := mw 888 rfl rfl
set_option maxRecDepth 100000 in
theorem wm_889 : (.methodLink RX10 65 yX10_firstDraft : Cond) ∈ WS := mw 889 rfl rfl
set_option maxRecDepth 100000 in
theorem wm_891 : (.instanceMethod yX10_firstDraft : Cond) ∈ WS := mw 891 rfl rfl
set_option maxRecDepth 100000 in
theorem wm_892 : (.code yX10_firstDraft cX10_firstDraft 2 none : Cond) ∈ WS := mw 892 rfl rfl
set_option maxRecDepth 100000 in
theorem wm_893 : (.methodLink RX10 68 yX10_keepDraft : Cond) ∈ WS := mw 893 rfl rfl
set_option maxRecDepth 100000 in
theorem wm_895 : (.instanceMethod yX10_keepDraft : Cond) ∈ WS := mw 895 rfl rfl
set_option maxRecDepth 100000 in
theorem wm_896 : (.code yX10_keepDraft cX10_keepDraft 2 none : Cond) ∈ WS := mw 896 rfl rfl
set_option maxRecDepth 100000 in
theorem wm_897 : (.fieldLink RX10 7 RX10 "st" "[I" : Cond) ∈ WS := mw 897 rfl rfl
set_option maxRecDepth 100000 in
theorem wm_898 : (.fieldLink RX10 13 RX10 "isKept" "[Z" : Cond) ∈ WS := mw 898 rfl rfl
set_option maxRecDepth 100000 in
theorem wm_899 : (.fieldLink RX10 84 RX10 "places" "I" : Cond) ∈ WS := mw 899 rfl rfl
set_option maxRecDepth 100000 in
theorem wm_900 : (.fieldLink RX10 87 RX10 "crabs" "I" : Cond) ∈ WS := mw 900 rfl rfl
set_option maxRecDepth 100000 in
theorem wm_901 : (.fieldLink RX10 17 RX10 "draft" "[I" : Cond) ∈ WS := mw 901 rfl rfl
set_option maxRecDepth 100000 in
theorem wm_902 : (.fieldLink RX10 71 RX10 "dPlaces" "I" : Cond) ∈ WS := mw 902 rfl rfl
set_option maxRecDepth 100000 in
theorem wm_903 : (.fieldLink RX10 75 RX10 "dCrabs" "I" : Cond) ∈ WS := mw 903 rfl rfl
set_option maxRecDepth 100000 in
theorem wm_904 : (.fieldLink RX10 78 RX10 "toldLines" "I" : Cond) ∈ WS := mw 904 rfl rfl
set_option maxRecDepth 100000 in
theorem wm_905 : (.fieldLink RX10 81 RX10 "highest" "I" : Cond) ∈ WS := mw 905 rfl rfl
set_option maxRecDepth 100000 in
theorem wm_906 : (.fieldLink RX10 20 RX10 "tape" "[I" : Cond) ∈ WS := mw 906 rfl rfl
set_option maxRecDepth 100000 in
theorem wm_907 : (.fieldLink RX10 90 RX10 "taped" "I" : Cond) ∈ WS := mw 907 rfl rfl
set_option maxRecDepth 100000 in
theorem wm_908 : (.fieldLink RX10 108 RX10 "pos" "I" : Cond) ∈ WS := mw 908 rfl rfl
set_option maxRecDepth 100000 in
theorem wm_909 : (.fieldLink RX10 102 RX10 "from" "I" : Cond) ∈ WS := mw 909 rfl rfl
set_option maxRecDepth 100000 in
theorem wm_910 : (.fieldLink RX10 123 RX10 "sort" "I" : Cond) ∈ WS := mw 910 rfl rfl
set_option maxRecDepth 100000 in
theorem wm_911 : (.fieldLink RX10 134 RX10 "value" "I" : Cond) ∈ WS := mw 911 rfl rfl
set_option maxRecDepth 100000 in
theorem wm_912 : (.fieldLink RX10 99 RX10 "fault" "I" : Cond) ∈ WS := mw 912 rfl rfl
set_option maxRecDepth 100000 in
theorem wm_913 : (.fieldLink RX10 105 RX10 "wrongAt" "I" : Cond) ∈ WS := mw 913 rfl rfl
set_option maxRecDepth 100000 in
theorem wm_914 : (.fieldLink RX10 23 RX10 "holes" "[I" : Cond) ∈ WS := mw 914 rfl rfl
set_option maxRecDepth 100000 in
theorem wm_915 : (.fieldLink RX10 26 RX10 "fakeNow" "[I" : Cond) ∈ WS := mw 915 rfl rfl
set_option maxRecDepth 100000 in
theorem wm_916 : (.fieldLink RX10 29 RX10 "at" "[I" : Cond) ∈ WS := mw 916 rfl rfl
set_option maxRecDepth 100000 in
theorem wm_917 : (.fieldLink RX10 32 RX10 "claw" "[I" : Cond) ∈ WS := mw 917 rfl rfl
set_option maxRecDepth 100000 in
theorem wm_918 : (.fieldLink RX10 35 RX10 "shell" "[I" : Cond) ∈ WS := mw 918 rfl rfl
set_option maxRecDepth 100000 in
theorem wm_919 : (.fieldLink RX10 38 RX10 "hands" "[I" : Cond) ∈ WS := mw 919 rfl rfl
set_option maxRecDepth 100000 in
theorem wm_920 : (.fieldLink RX10 41 RX10 "place" "[I" : Cond) ∈ WS := mw 920 rfl rfl
set_option maxRecDepth 100000 in
theorem wm_921 : (.fieldLink RX10 44 RX10 "order" "[I" : Cond) ∈ WS := mw 921 rfl rfl
set_option maxRecDepth 100000 in
theorem wm_922 : (.fieldLink RX10 47 RX10 "drops" "[Z" : Cond) ∈ WS := mw 922 rfl rfl
set_option maxRecDepth 100000 in
theorem wm_923 : (.fieldLink RX10 181 RX10 "ordered" "I" : Cond) ∈ WS := mw 923 rfl rfl
set_option maxRecDepth 100000 in
theorem wm_924 : (.fieldLink RX10 184 RX10 "clock" "I" : Cond) ∈ WS := mw 924 rfl rfl
set_option maxRecDepth 100000 in
theorem wm_925 : (.fieldLink RX10 50 RX10 "nowOrder" "[I" : Cond) ∈ WS := mw 925 rfl rfl
set_option maxRecDepth 100000 in
theorem wm_926 : (.fieldLink RX10 53 RX10 "bestOrder" "[I" : Cond) ∈ WS := mw 926 rfl rfl
set_option maxRecDepth 100000 in
theorem wm_927 : (.fieldLink RX10 56 RX10 "lanes" "[I" : Cond) ∈ WS := mw 927 rfl rfl
set_option maxRecDepth 100000 in
theorem wm_928 : (.fieldLink RX10 59 RX10 "sizes" "[I" : Cond) ∈ WS := mw 928 rfl rfl
set_option maxRecDepth 100000 in
theorem wm_929 : (.fieldLink RX10 62 RX10 "cells" "[I" : Cond) ∈ WS := mw 929 rfl rfl
set_option maxRecDepth 100000 in
theorem wm_930 : (.fieldLink RX10 278 RX10 "torn" "I" : Cond) ∈ WS := mw 930 rfl rfl
set_option maxRecDepth 100000 in
theorem wm_1000 : (.methodLink RL 19 yX10_feed : Cond) ∈ WS := mw 1000 rfl rfl
set_option maxRecDepth 100000 in
theorem wm_1001 : (.instanceMethod yX10_feed : Cond) ∈ WS := mw 1001 rfl rfl
set_option maxRecDepth 100000 in
theorem wm_1002 : (.selects RX10 yX10_feed yX10_feed : Cond) ∈ WS := mw 1002 rfl rfl
set_option maxRecDepth 100000 in
theorem wm_1003 : (.code yX10_feed cX10_feed 4 (some .int) : Cond) ∈ WS := mw 1003 rfl rfl
set_option maxRecDepth 100000 in
theorem wm_1004 : (.constantLong RX10 93 (255) : Cond) ∈ WS := mw 1004 rfl rfl
set_option maxRecDepth 100000 in
theorem wm_1005 : (.methodLink RL 24 yX10_end : Cond) ∈ WS := mw 1005 rfl rfl
set_option maxRecDepth 100000 in
theorem wm_1006 : (.instanceMethod yX10_end : Cond) ∈ WS := mw 1006 rfl rfl
set_option maxRecDepth 100000 in
theorem wm_1007 : (.selects RX10 yX10_end yX10_end : Cond) ∈ WS := mw 1007 rfl rfl
set_option maxRecDepth 100000 in
theorem wm_1008 : (.code yX10_end cX10_end 3 (some .int) : Cond) ∈ WS := mw 1008 rfl rfl
set_option maxRecDepth 100000 in
theorem wm_1009 : (.methodLink RX10 95 yX10_in : Cond) ∈ WS := mw 1009 rfl rfl
set_option maxRecDepth 100000 in
theorem wm_1010 : (.static yX10_in : Cond) ∈ WS := mw 1010 rfl rfl
set_option maxRecDepth 100000 in
theorem wm_1011 : (.code yX10_in cX10_in 6 (some .boolean) : Cond) ∈ WS := mw 1011 rfl rfl
set_option maxRecDepth 100000 in
theorem wm_1012 : (.methodLink RL 29 yX10_text : Cond) ∈ WS := mw 1012 rfl rfl
set_option maxRecDepth 100000 in
theorem wm_1013 : (.instanceMethod yX10_text : Cond) ∈ WS := mw 1013 rfl rfl
set_option maxRecDepth 100000 in
theorem wm_1014 : (.selects RX10 yX10_text yX10_text : Cond) ∈ WS := mw 1014 rfl rfl
set_option maxRecDepth 100000 in
theorem wm_1015 : (.code yX10_text cX10_text 2 (some .int) : Cond) ∈ WS := mw 1015 rfl rfl
set_option maxRecDepth 100000 in
theorem wm_1016 : (.methodLink RX10 145 yX10_next : Cond) ∈ WS := mw 1016 rfl rfl
set_option maxRecDepth 100000 in
theorem wm_1018 : (.instanceMethod yX10_next : Cond) ∈ WS := mw 1018 rfl rfl
set_option maxRecDepth 100000 in
theorem wm_1019 : (.code yX10_next cX10_next 2 none : Cond) ∈ WS := mw 1019 rfl rfl
set_option maxRecDepth 100000 in
theorem wm_1020 : (.methodLink RX10 111 yX10_look : Cond) ∈ WS := mw 1020 rfl rfl
set_option maxRecDepth 100000 in
theorem wm_1022 : (.instanceMethod yX10_look : Cond) ∈ WS := mw 1022 rfl rfl
set_option maxRecDepth 100000 in
theorem wm_1023 : (.code yX10_look cX10_look 2 (some .int) : Cond) ∈ WS := mw 1023 rfl rfl
set_option maxRecDepth 100000 in
theorem wm_1024 : (.constantLong RX10 126 (97) : Cond) ∈ WS := mw 1024 rfl rfl
set_option maxRecDepth 100000 in
theorem wm_1025 : (.constantLong RX10 128 (122) : Cond) ∈ WS := mw 1025 rfl rfl
set_option maxRecDepth 100000 in
theorem wm_1026 : (.constantLong RX10 130 (48) : Cond) ∈ WS := mw 1026 rfl rfl
set_option maxRecDepth 100000 in
theorem wm_1027 : (.constantLong RX10 132 (57) : Cond) ∈ WS := mw 1027 rfl rfl
set_option maxRecDepth 100000 in
theorem wm_1028 : (.methodLink RX10 137 yX10_needs : Cond) ∈ WS := mw 1028 rfl rfl
set_option maxRecDepth 100000 in
theorem wm_1030 : (.instanceMethod yX10_needs : Cond) ∈ WS := mw 1030 rfl rfl
set_option maxRecDepth 100000 in
theorem wm_1031 : (.code yX10_needs cX10_needs 3 none : Cond) ∈ WS := mw 1031 rfl rfl
set_option maxRecDepth 100000 in
theorem wm_1032 : (.methodLink RX10 178 yX10_readLine : Cond) ∈ WS := mw 1032 rfl rfl
set_option maxRecDepth 100000 in
theorem wm_1034 : (.instanceMethod yX10_readLine : Cond) ∈ WS := mw 1034 rfl rfl
set_option maxRecDepth 100000 in
theorem wm_1035 : (.code yX10_readLine cX10_readLine 2 none : Cond) ∈ WS := mw 1035 rfl rfl
set_option maxRecDepth 100000 in
theorem wm_1036 : (.methodLink RX10 171 yX10_lineNow : Cond) ∈ WS := mw 1036 rfl rfl
set_option maxRecDepth 100000 in
theorem wm_1038 : (.instanceMethod yX10_lineNow : Cond) ∈ WS := mw 1038 rfl rfl
set_option maxRecDepth 100000 in
theorem wm_1039 : (.code yX10_lineNow cX10_lineNow 1 (some .int) : Cond) ∈ WS := mw 1039 rfl rfl
set_option maxRecDepth 100000 in
theorem wm_1040 : (.methodLink RX10 115 yX10_is : Cond) ∈ WS := mw 1040 rfl rfl
set_option maxRecDepth 100000 in
theorem wm_1042 : (.instanceMethod yX10_is : Cond) ∈ WS := mw 1042 rfl rfl
set_option maxRecDepth 100000 in
theorem wm_1043 : (.code yX10_is cX10_is 5 (some .boolean) : Cond) ∈ WS := mw 1043 rfl rfl
set_option maxRecDepth 100000 in
theorem wm_1044 : (.methodLink RX10 119 yX10_ends : Cond) ∈ WS := mw 1044 rfl rfl
set_option maxRecDepth 100000 in
theorem wm_1046 : (.instanceMethod yX10_ends : Cond) ∈ WS := mw 1046 rfl rfl
set_option maxRecDepth 100000 in
theorem wm_1047 : (.code yX10_ends cX10_ends 4 (some .boolean) : Cond) ∈ WS := mw 1047 rfl rfl
set_option maxRecDepth 100000 in
theorem wm_1048 : (.methodLink RX10 174 yX10_readLineOf : Cond) ∈ WS := mw 1048 rfl rfl
set_option maxRecDepth 100000 in
theorem wm_1050 : (.instanceMethod yX10_readLineOf : Cond) ∈ WS := mw 1050 rfl rfl
set_option maxRecDepth 100000 in
theorem wm_1051 : (.code yX10_readLineOf cX10_readLineOf 2 none : Cond) ∈ WS := mw 1051 rfl rfl
set_option maxRecDepth 100000 in
theorem wm_1052 : (.methodLink RX10 152 yX10_readNumber : Cond) ∈ WS := mw 1052 rfl rfl
set_option maxRecDepth 100000 in
theorem wm_1054 : (.instanceMethod yX10_readNumber : Cond) ∈ WS := mw 1054 rfl rfl
set_option maxRecDepth 100000 in
theorem wm_1055 : (.code yX10_readNumber cX10_readNumber 4 (some .int) : Cond) ∈ WS := mw 1055 rfl rfl
set_option maxRecDepth 100000 in
theorem wm_1056 : (.methodLink RX10 141 yX10_looked : Cond) ∈ WS := mw 1056 rfl rfl
set_option maxRecDepth 100000 in
theorem wm_1058 : (.instanceMethod yX10_looked : Cond) ∈ WS := mw 1058 rfl rfl
set_option maxRecDepth 100000 in
theorem wm_1059 : (.code yX10_looked cX10_looked 3 (some .int) : Cond) ∈ WS := mw 1059 rfl rfl
set_option maxRecDepth 100000 in
theorem wm_1060 : (.methodLink RX10 162 yX10_readHole : Cond) ∈ WS := mw 1060 rfl rfl
set_option maxRecDepth 100000 in
theorem wm_1062 : (.instanceMethod yX10_readHole : Cond) ∈ WS := mw 1062 rfl rfl
set_option maxRecDepth 100000 in
theorem wm_1063 : (.code yX10_readHole cX10_readHole 3 none : Cond) ∈ WS := mw 1063 rfl rfl
set_option maxRecDepth 100000 in
theorem wm_1064 : (.methodLink RX10 148 yX10_lookedPlace : Cond) ∈ WS := mw 1064 rfl rfl
set_option maxRecDepth 100000 in
theorem wm_1066 : (.instanceMethod yX10_lookedPlace : Cond) ∈ WS := mw 1066 rfl rfl
set_option maxRecDepth 100000 in
theorem wm_1067 : (.code yX10_lookedPlace cX10_lookedPlace 2 (some .int) : Cond) ∈ WS := mw 1067 rfl rfl
set_option maxRecDepth 100000 in
theorem wm_1068 : (.methodLink RX10 165 yX10_readCoin : Cond) ∈ WS := mw 1068 rfl rfl
set_option maxRecDepth 100000 in
theorem wm_1070 : (.instanceMethod yX10_readCoin : Cond) ∈ WS := mw 1070 rfl rfl
set_option maxRecDepth 100000 in
theorem wm_1071 : (.code yX10_readCoin cX10_readCoin 2 none : Cond) ∈ WS := mw 1071 rfl rfl
set_option maxRecDepth 100000 in
theorem wm_1072 : (.methodLink RX10 155 yX10_readPlace : Cond) ∈ WS := mw 1072 rfl rfl
set_option maxRecDepth 100000 in
theorem wm_1074 : (.instanceMethod yX10_readPlace : Cond) ∈ WS := mw 1074 rfl rfl
set_option maxRecDepth 100000 in
theorem wm_1075 : (.code yX10_readPlace cX10_readPlace 2 (some .int) : Cond) ∈ WS := mw 1075 rfl rfl
set_option maxRecDepth 100000 in
theorem wm_1076 : (.methodLink RX10 168 yX10_readCrab : Cond) ∈ WS := mw 1076 rfl rfl
set_option maxRecDepth 100000 in
theorem wm_1078 : (.instanceMethod yX10_readCrab : Cond) ∈ WS := mw 1078 rfl rfl
set_option maxRecDepth 100000 in
theorem wm_1079 : (.code yX10_readCrab cX10_readCrab 3 none : Cond) ∈ WS := mw 1079 rfl rfl
set_option maxRecDepth 100000 in
theorem wm_1080 : (.methodLink RX10 158 yX10_flag : Cond) ∈ WS := mw 1080 rfl rfl
set_option maxRecDepth 100000 in
theorem wm_1081 : (.static yX10_flag : Cond) ∈ WS := mw 1081 rfl rfl
set_option maxRecDepth 100000 in
theorem wm_1082 : (.code yX10_flag cX10_flag 1 (some .int) : Cond) ∈ WS := mw 1082 rfl rfl
set_option maxRecDepth 100000 in
theorem wm_1083 : (.methodLink RL 33 yX10_fault : Cond) ∈ WS := mw 1083 rfl rfl
set_option maxRecDepth 100000 in
theorem wm_1084 : (.instanceMethod yX10_fault : Cond) ∈ WS := mw 1084 rfl rfl
set_option maxRecDepth 100000 in
theorem wm_1085 : (.selects RX10 yX10_fault yX10_fault : Cond) ∈ WS := mw 1085 rfl rfl
set_option maxRecDepth 100000 in
theorem wm_1086 : (.code yX10_fault cX10_fault 1 (some .int) : Cond) ∈ WS := mw 1086 rfl rfl
set_option maxRecDepth 100000 in
theorem wm_1087 : (.methodLink RL 37 yX10_rule : Cond) ∈ WS := mw 1087 rfl rfl
set_option maxRecDepth 100000 in
theorem wm_1088 : (.instanceMethod yX10_rule : Cond) ∈ WS := mw 1088 rfl rfl
set_option maxRecDepth 100000 in
theorem wm_1089 : (.selects RX10 yX10_rule yX10_rule : Cond) ∈ WS := mw 1089 rfl rfl
set_option maxRecDepth 100000 in
theorem wm_1090 : (.code yX10_rule cX10_rule 2 (some .int) : Cond) ∈ WS := mw 1090 rfl rfl
set_option maxRecDepth 100000 in
theorem wm_1091 : (.methodLink RL 41 yX10_hole : Cond) ∈ WS := mw 1091 rfl rfl
set_option maxRecDepth 100000 in
theorem wm_1092 : (.instanceMethod yX10_hole : Cond) ∈ WS := mw 1092 rfl rfl
set_option maxRecDepth 100000 in
theorem wm_1093 : (.selects RX10 yX10_hole yX10_hole : Cond) ∈ WS := mw 1093 rfl rfl
set_option maxRecDepth 100000 in
theorem wm_1094 : (.code yX10_hole cX10_hole 2 (some .int) : Cond) ∈ WS := mw 1094 rfl rfl
set_option maxRecDepth 100000 in
theorem wm_1095 : (.methodLink RX10 216 yX10_isPlace : Cond) ∈ WS := mw 1095 rfl rfl
set_option maxRecDepth 100000 in
theorem wm_1097 : (.instanceMethod yX10_isPlace : Cond) ∈ WS := mw 1097 rfl rfl
set_option maxRecDepth 100000 in
theorem wm_1098 : (.code yX10_isPlace cX10_isPlace 2 (some .boolean) : Cond) ∈ WS := mw 1098 rfl rfl
set_option maxRecDepth 100000 in
theorem wm_1099 : (.methodLink RL 46 yX10_coin : Cond) ∈ WS := mw 1099 rfl rfl
set_option maxRecDepth 100000 in
theorem wm_1100 : (.instanceMethod yX10_coin : Cond) ∈ WS := mw 1100 rfl rfl
set_option maxRecDepth 100000 in
theorem wm_1101 : (.selects RX10 yX10_coin yX10_coin : Cond) ∈ WS := mw 1101 rfl rfl
set_option maxRecDepth 100000 in
theorem wm_1102 : (.code yX10_coin cX10_coin 3 (some .int) : Cond) ∈ WS := mw 1102 rfl rfl
set_option maxRecDepth 100000 in
theorem wm_1103 : (.methodLink RX10 219 yX10_isCoin : Cond) ∈ WS := mw 1103 rfl rfl
set_option maxRecDepth 100000 in
theorem wm_1105 : (.instanceMethod yX10_isCoin : Cond) ∈ WS := mw 1105 rfl rfl
set_option maxRecDepth 100000 in
theorem wm_1106 : (.code yX10_isCoin cX10_isCoin 2 (some .boolean) : Cond) ∈ WS := mw 1106 rfl rfl
set_option maxRecDepth 100000 in
theorem wm_1107 : (.methodLink RX10 222 yX10_starts : Cond) ∈ WS := mw 1107 rfl rfl
set_option maxRecDepth 100000 in
theorem wm_1109 : (.instanceMethod yX10_starts : Cond) ∈ WS := mw 1109 rfl rfl
set_option maxRecDepth 100000 in
theorem wm_1110 : (.code yX10_starts cX10_starts 2 none : Cond) ∈ WS := mw 1110 rfl rfl
set_option maxRecDepth 100000 in
theorem wm_1111 : (.methodLink RX10 206 yX10_isRight : Cond) ∈ WS := mw 1111 rfl rfl
set_option maxRecDepth 100000 in
theorem wm_1113 : (.instanceMethod yX10_isRight : Cond) ∈ WS := mw 1113 rfl rfl
set_option maxRecDepth 100000 in
theorem wm_1114 : (.code yX10_isRight cX10_isRight 3 (some .boolean) : Cond) ∈ WS := mw 1114 rfl rfl
set_option maxRecDepth 100000 in
theorem wm_1115 : (.methodLink RX10 203 yX10_rightPlace : Cond) ∈ WS := mw 1115 rfl rfl
set_option maxRecDepth 100000 in
theorem wm_1117 : (.instanceMethod yX10_rightPlace : Cond) ∈ WS := mw 1117 rfl rfl
set_option maxRecDepth 100000 in
theorem wm_1118 : (.code yX10_rightPlace cX10_rightPlace 5 (some .int) : Cond) ∈ WS := mw 1118 rfl rfl
set_option maxRecDepth 100000 in
theorem wm_1119 : (.methodLink RL 50 yX10_crab : Cond) ∈ WS := mw 1119 rfl rfl
set_option maxRecDepth 100000 in
theorem wm_1120 : (.instanceMethod yX10_crab : Cond) ∈ WS := mw 1120 rfl rfl
set_option maxRecDepth 100000 in
theorem wm_1121 : (.selects RX10 yX10_crab yX10_crab : Cond) ∈ WS := mw 1121 rfl rfl
set_option maxRecDepth 100000 in
theorem wm_1122 : (.code yX10_crab cX10_crab 3 (some .int) : Cond) ∈ WS := mw 1122 rfl rfl
set_option maxRecDepth 100000 in
theorem wm_1123 : (.methodLink RX10 225 yX10_isCrab : Cond) ∈ WS := mw 1123 rfl rfl
set_option maxRecDepth 100000 in
theorem wm_1125 : (.instanceMethod yX10_isCrab : Cond) ∈ WS := mw 1125 rfl rfl
set_option maxRecDepth 100000 in
theorem wm_1126 : (.code yX10_isCrab cX10_isCrab 2 (some .boolean) : Cond) ∈ WS := mw 1126 rfl rfl
set_option maxRecDepth 100000 in
theorem wm_1127 : (.methodLink RX10 191 yX10_heldBy : Cond) ∈ WS := mw 1127 rfl rfl
set_option maxRecDepth 100000 in
theorem wm_1129 : (.instanceMethod yX10_heldBy : Cond) ∈ WS := mw 1129 rfl rfl
set_option maxRecDepth 100000 in
theorem wm_1130 : (.code yX10_heldBy cX10_heldBy 4 (some .int) : Cond) ∈ WS := mw 1130 rfl rfl
set_option maxRecDepth 100000 in
theorem wm_1131 : (.methodLink RL 54 yX10_dig : Cond) ∈ WS := mw 1131 rfl rfl
set_option maxRecDepth 100000 in
theorem wm_1132 : (.instanceMethod yX10_dig : Cond) ∈ WS := mw 1132 rfl rfl
set_option maxRecDepth 100000 in
theorem wm_1133 : (.selects RX10 yX10_dig yX10_dig : Cond) ∈ WS := mw 1133 rfl rfl
set_option maxRecDepth 100000 in
theorem wm_1134 : (.code yX10_dig cX10_dig 3 (some .int) : Cond) ∈ WS := mw 1134 rfl rfl
set_option maxRecDepth 100000 in
theorem wm_1135 : (.constantLong RX10 228 (9) : Cond) ∈ WS := mw 1135 rfl rfl
set_option maxRecDepth 100000 in
theorem wm_1136 : (.methodLink RX10 230 yX10_manyAt : Cond) ∈ WS := mw 1136 rfl rfl
set_option maxRecDepth 100000 in
theorem wm_1138 : (.instanceMethod yX10_manyAt : Cond) ∈ WS := mw 1138 rfl rfl
set_option maxRecDepth 100000 in
theorem wm_1139 : (.code yX10_manyAt cX10_manyAt 4 (some .int) : Cond) ∈ WS := mw 1139 rfl rfl
set_option maxRecDepth 100000 in
theorem wm_1140 : (.methodLink RX10 233 yX10_becomes : Cond) ∈ WS := mw 1140 rfl rfl
set_option maxRecDepth 100000 in
theorem wm_1142 : (.instanceMethod yX10_becomes : Cond) ∈ WS := mw 1142 rfl rfl
set_option maxRecDepth 100000 in
theorem wm_1143 : (.code yX10_becomes cX10_becomes 4 (some .int) : Cond) ∈ WS := mw 1143 rfl rfl
set_option maxRecDepth 100000 in
theorem wm_1144 : (.methodLink RL 58 yX10_mint : Cond) ∈ WS := mw 1144 rfl rfl
set_option maxRecDepth 100000 in
theorem wm_1145 : (.instanceMethod yX10_mint : Cond) ∈ WS := mw 1145 rfl rfl
set_option maxRecDepth 100000 in
theorem wm_1146 : (.selects RX10 yX10_mint yX10_mint : Cond) ∈ WS := mw 1146 rfl rfl
set_option maxRecDepth 100000 in
theorem wm_1147 : (.code yX10_mint cX10_mint 4 (some .int) : Cond) ∈ WS := mw 1147 rfl rfl
set_option maxRecDepth 100000 in
theorem wm_1148 : (.methodLink RL 62 yX10_lie : Cond) ∈ WS := mw 1148 rfl rfl
set_option maxRecDepth 100000 in
theorem wm_1149 : (.instanceMethod yX10_lie : Cond) ∈ WS := mw 1149 rfl rfl
set_option maxRecDepth 100000 in
theorem wm_1150 : (.selects RX10 yX10_lie yX10_lie : Cond) ∈ WS := mw 1150 rfl rfl
set_option maxRecDepth 100000 in
theorem wm_1151 : (.code yX10_lie cX10_lie 3 (some .int) : Cond) ∈ WS := mw 1151 rfl rfl
set_option maxRecDepth 100000 in
theorem wm_1152 : (.methodLink RL 67 yX10_fake : Cond) ∈ WS := mw 1152 rfl rfl
set_option maxRecDepth 100000 in
theorem wm_1153 : (.instanceMethod yX10_fake : Cond) ∈ WS := mw 1153 rfl rfl
set_option maxRecDepth 100000 in
theorem wm_1154 : (.selects RX10 yX10_fake yX10_fake : Cond) ∈ WS := mw 1154 rfl rfl
set_option maxRecDepth 100000 in
theorem wm_1155 : (.code yX10_fake cX10_fake 3 (some .int) : Cond) ∈ WS := mw 1155 rfl rfl
set_option maxRecDepth 100000 in
theorem wm_1156 : (.methodLink RL 71 yX10_set : Cond) ∈ WS := mw 1156 rfl rfl
set_option maxRecDepth 100000 in
theorem wm_1157 : (.instanceMethod yX10_set : Cond) ∈ WS := mw 1157 rfl rfl
set_option maxRecDepth 100000 in
theorem wm_1158 : (.selects RX10 yX10_set yX10_set : Cond) ∈ WS := mw 1158 rfl rfl
set_option maxRecDepth 100000 in
theorem wm_1159 : (.code yX10_set cX10_set 3 (some .int) : Cond) ∈ WS := mw 1159 rfl rfl
set_option maxRecDepth 100000 in
theorem wm_1160 : (.methodLink RL 75 yX10_hand : Cond) ∈ WS := mw 1160 rfl rfl
set_option maxRecDepth 100000 in
theorem wm_1161 : (.instanceMethod yX10_hand : Cond) ∈ WS := mw 1161 rfl rfl
set_option maxRecDepth 100000 in
theorem wm_1162 : (.selects RX10 yX10_hand yX10_hand : Cond) ∈ WS := mw 1162 rfl rfl
set_option maxRecDepth 100000 in
theorem wm_1163 : (.code yX10_hand cX10_hand 3 (some .int) : Cond) ∈ WS := mw 1163 rfl rfl
set_option maxRecDepth 100000 in
theorem wm_1164 : (.methodLink RL 79 yX10_tide : Cond) ∈ WS := mw 1164 rfl rfl
set_option maxRecDepth 100000 in
theorem wm_1165 : (.instanceMethod yX10_tide : Cond) ∈ WS := mw 1165 rfl rfl
set_option maxRecDepth 100000 in
theorem wm_1166 : (.selects RX10 yX10_tide yX10_tide : Cond) ∈ WS := mw 1166 rfl rfl
set_option maxRecDepth 100000 in
theorem wm_1167 : (.code yX10_tide cX10_tide 3 (some .int) : Cond) ∈ WS := mw 1167 rfl rfl
set_option maxRecDepth 100000 in
theorem wm_1168 : (.constantLong RX10 236 (8) : Cond) ∈ WS := mw 1168 rfl rfl
set_option maxRecDepth 100000 in
theorem wm_1169 : (.methodLink RL 83 yX10_go : Cond) ∈ WS := mw 1169 rfl rfl
set_option maxRecDepth 100000 in
theorem wm_1170 : (.instanceMethod yX10_go : Cond) ∈ WS := mw 1170 rfl rfl
set_option maxRecDepth 100000 in
theorem wm_1171 : (.selects RX10 yX10_go yX10_go : Cond) ∈ WS := mw 1171 rfl rfl
set_option maxRecDepth 100000 in
theorem wm_1172 : (.code yX10_go cX10_go 3 (some .int) : Cond) ∈ WS := mw 1172 rfl rfl
set_option maxRecDepth 100000 in
theorem wm_1173 : (.constantLong RX10 238 (60) : Cond) ∈ WS := mw 1173 rfl rfl
set_option maxRecDepth 100000 in
theorem wm_1174 : (.methodLink RX10 213 yX10_steps : Cond) ∈ WS := mw 1174 rfl rfl
set_option maxRecDepth 100000 in
theorem wm_1176 : (.instanceMethod yX10_steps : Cond) ∈ WS := mw 1176 rfl rfl
set_option maxRecDepth 100000 in
theorem wm_1177 : (.code yX10_steps cX10_steps 3 none : Cond) ∈ WS := mw 1177 rfl rfl
set_option maxRecDepth 100000 in
theorem wm_1178 : (.methodLink RX10 197 yX10_does : Cond) ∈ WS := mw 1178 rfl rfl
set_option maxRecDepth 100000 in
theorem wm_1180 : (.instanceMethod yX10_does : Cond) ∈ WS := mw 1180 rfl rfl
set_option maxRecDepth 100000 in
theorem wm_1181 : (.code yX10_does cX10_does 5 none : Cond) ∈ WS := mw 1181 rfl rfl
set_option maxRecDepth 100000 in
theorem wm_1182 : (.methodLink RX10 194 yX10_lyingFor : Cond) ∈ WS := mw 1182 rfl rfl
set_option maxRecDepth 100000 in
theorem wm_1184 : (.instanceMethod yX10_lyingFor : Cond) ∈ WS := mw 1184 rfl rfl
set_option maxRecDepth 100000 in
theorem wm_1185 : (.code yX10_lyingFor cX10_lyingFor 4 (some .int) : Cond) ∈ WS := mw 1185 rfl rfl
set_option maxRecDepth 100000 in
theorem wm_1186 : (.methodLink RX10 187 yX10_doesFit : Cond) ∈ WS := mw 1186 rfl rfl
set_option maxRecDepth 100000 in
theorem wm_1188 : (.instanceMethod yX10_doesFit : Cond) ∈ WS := mw 1188 rfl rfl
set_option maxRecDepth 100000 in
theorem wm_1189 : (.code yX10_doesFit cX10_doesFit 3 (some .boolean) : Cond) ∈ WS := mw 1189 rfl rfl
set_option maxRecDepth 100000 in
theorem wm_1190 : (.methodLink RX10 200 yX10_fights : Cond) ∈ WS := mw 1190 rfl rfl
set_option maxRecDepth 100000 in
theorem wm_1192 : (.instanceMethod yX10_fights : Cond) ∈ WS := mw 1192 rfl rfl
set_option maxRecDepth 100000 in
theorem wm_1193 : (.code yX10_fights cX10_fights 8 none : Cond) ∈ WS := mw 1193 rfl rfl
set_option maxRecDepth 100000 in
theorem wm_1194 : (.methodLink RX10 210 yX10_rightMany : Cond) ∈ WS := mw 1194 rfl rfl
set_option maxRecDepth 100000 in
theorem wm_1196 : (.instanceMethod yX10_rightMany : Cond) ∈ WS := mw 1196 rfl rfl
set_option maxRecDepth 100000 in
theorem wm_1197 : (.code yX10_rightMany cX10_rightMany 3 (some .int) : Cond) ∈ WS := mw 1197 rfl rfl
set_option maxRecDepth 100000 in
theorem wm_1198 : (.methodLink RL 87 yX10_ahead : Cond) ∈ WS := mw 1198 rfl rfl
set_option maxRecDepth 100000 in
theorem wm_1199 : (.instanceMethod yX10_ahead : Cond) ∈ WS := mw 1199 rfl rfl
set_option maxRecDepth 100000 in
theorem wm_1200 : (.selects RX10 yX10_ahead yX10_ahead : Cond) ∈ WS := mw 1200 rfl rfl
set_option maxRecDepth 100000 in
theorem wm_1201 : (.code yX10_ahead cX10_ahead 4 (some .int) : Cond) ∈ WS := mw 1201 rfl rfl
set_option maxRecDepth 100000 in
theorem wm_1202 : (.methodLink RL 91 yX10_grow : Cond) ∈ WS := mw 1202 rfl rfl
set_option maxRecDepth 100000 in
theorem wm_1203 : (.instanceMethod yX10_grow : Cond) ∈ WS := mw 1203 rfl rfl
set_option maxRecDepth 100000 in
theorem wm_1204 : (.selects RX10 yX10_grow yX10_grow : Cond) ∈ WS := mw 1204 rfl rfl
set_option maxRecDepth 100000 in
theorem wm_1205 : (.code yX10_grow cX10_grow 3 (some .int) : Cond) ∈ WS := mw 1205 rfl rfl
set_option maxRecDepth 100000 in
theorem wm_1206 : (.methodLink RL 95 yX10_sorted : Cond) ∈ WS := mw 1206 rfl rfl
set_option maxRecDepth 100000 in
theorem wm_1207 : (.instanceMethod yX10_sorted : Cond) ∈ WS := mw 1207 rfl rfl
set_option maxRecDepth 100000 in
theorem wm_1208 : (.selects RX10 yX10_sorted yX10_sorted : Cond) ∈ WS := mw 1208 rfl rfl
set_option maxRecDepth 100000 in
theorem wm_1209 : (.code yX10_sorted cX10_sorted 1 (some .int) : Cond) ∈ WS := mw 1209 rfl rfl
set_option maxRecDepth 100000 in
theorem wm_1210 : (.methodLink RX10 240 yX10_sortedBehind : Cond) ∈ WS := mw 1210 rfl rfl
set_option maxRecDepth 100000 in
theorem wm_1212 : (.instanceMethod yX10_sortedBehind : Cond) ∈ WS := mw 1212 rfl rfl
set_option maxRecDepth 100000 in
theorem wm_1213 : (.code yX10_sortedBehind cX10_sortedBehind 2 (some .int) : Cond) ∈ WS := mw 1213 rfl rfl
set_option maxRecDepth 100000 in
theorem wm_1214 : (.methodLink RL 99 yX10_orders : Cond) ∈ WS := mw 1214 rfl rfl
set_option maxRecDepth 100000 in
theorem wm_1215 : (.instanceMethod yX10_orders : Cond) ∈ WS := mw 1215 rfl rfl
set_option maxRecDepth 100000 in
theorem wm_1216 : (.selects RX10 yX10_orders yX10_orders : Cond) ∈ WS := mw 1216 rfl rfl
set_option maxRecDepth 100000 in
theorem wm_1217 : (.code yX10_orders cX10_orders 8 (some .int) : Cond) ∈ WS := mw 1217 rfl rfl
set_option maxRecDepth 100000 in
theorem wm_1218 : (.constantLong RX10 243 (10) : Cond) ∈ WS := mw 1218 rfl rfl
set_option maxRecDepth 100000 in
theorem wm_1219 : (.constantLong RX10 245 (13) : Cond) ∈ WS := mw 1219 rfl rfl
set_option maxRecDepth 100000 in
theorem wm_1220 : (.methodLink RX10 247 yX10_nextOrder : Cond) ∈ WS := mw 1220 rfl rfl
set_option maxRecDepth 100000 in
theorem wm_1222 : (.instanceMethod yX10_nextOrder : Cond) ∈ WS := mw 1222 rfl rfl
set_option maxRecDepth 100000 in
theorem wm_1223 : (.code yX10_nextOrder cX10_nextOrder 6 (some .boolean) : Cond) ∈ WS := mw 1223 rfl rfl
set_option maxRecDepth 100000 in
theorem wm_1224 : (.methodLink RL 103 yX10_fewest : Cond) ∈ WS := mw 1224 rfl rfl
set_option maxRecDepth 100000 in
theorem wm_1225 : (.instanceMethod yX10_fewest : Cond) ∈ WS := mw 1225 rfl rfl
set_option maxRecDepth 100000 in
theorem wm_1226 : (.selects RX10 yX10_fewest yX10_fewest : Cond) ∈ WS := mw 1226 rfl rfl
set_option maxRecDepth 100000 in
theorem wm_1227 : (.code yX10_fewest cX10_fewest 7 (some .int) : Cond) ∈ WS := mw 1227 rfl rfl
set_option maxRecDepth 100000 in
theorem wm_1228 : (.methodLink RL 107 yX10_better : Cond) ∈ WS := mw 1228 rfl rfl
set_option maxRecDepth 100000 in
theorem wm_1229 : (.instanceMethod yX10_better : Cond) ∈ WS := mw 1229 rfl rfl
set_option maxRecDepth 100000 in
theorem wm_1230 : (.selects RX10 yX10_better yX10_better : Cond) ∈ WS := mw 1230 rfl rfl
set_option maxRecDepth 100000 in
theorem wm_1231 : (.code yX10_better cX10_better 8 (some .int) : Cond) ∈ WS := mw 1231 rfl rfl
set_option maxRecDepth 100000 in
theorem wm_1232 : (.methodLink RL 111 yX10_weeks : Cond) ∈ WS := mw 1232 rfl rfl
set_option maxRecDepth 100000 in
theorem wm_1233 : (.instanceMethod yX10_weeks : Cond) ∈ WS := mw 1233 rfl rfl
set_option maxRecDepth 100000 in
theorem wm_1234 : (.selects RX10 yX10_weeks yX10_weeks : Cond) ∈ WS := mw 1234 rfl rfl
set_option maxRecDepth 100000 in
theorem wm_1235 : (.code yX10_weeks cX10_weeks 4 (some .int) : Cond) ∈ WS := mw 1235 rfl rfl
set_option maxRecDepth 100000 in
theorem wm_1236 : (.methodLink RL 116 yX10_see : Cond) ∈ WS := mw 1236 rfl rfl
set_option maxRecDepth 100000 in
theorem wm_1237 : (.instanceMethod yX10_see : Cond) ∈ WS := mw 1237 rfl rfl
set_option maxRecDepth 100000 in
theorem wm_1238 : (.selects RX10 yX10_see yX10_see : Cond) ∈ WS := mw 1238 rfl rfl
set_option maxRecDepth 100000 in
theorem wm_1239 : (.code yX10_see cX10_see 6 (some .int) : Cond) ∈ WS := mw 1239 rfl rfl
set_option maxRecDepth 100000 in
theorem wm_1240 : (.constantLong RX10 253 (20) : Cond) ∈ WS := mw 1240 rfl rfl
set_option maxRecDepth 100000 in
theorem wm_1241 : (.methodLink RX10 257 yX10_isWhere : Cond) ∈ WS := mw 1241 rfl rfl
set_option maxRecDepth 100000 in
theorem wm_1242 : (.static yX10_isWhere : Cond) ∈ WS := mw 1242 rfl rfl
set_option maxRecDepth 100000 in
theorem wm_1243 : (.code yX10_isWhere cX10_isWhere 1 (some .boolean) : Cond) ∈ WS := mw 1243 rfl rfl
set_option maxRecDepth 100000 in
theorem wm_1244 : (.constantLong RX10 251 (7) : Cond) ∈ WS := mw 1244 rfl rfl
set_option maxRecDepth 100000 in
theorem wm_1245 : (.constantLong RX10 255 (27) : Cond) ∈ WS := mw 1245 rfl rfl
set_option maxRecDepth 100000 in
theorem wm_1246 : (.methodLink RL 120 yX10_forget : Cond) ∈ WS := mw 1246 rfl rfl
set_option maxRecDepth 100000 in
theorem wm_1247 : (.instanceMethod yX10_forget : Cond) ∈ WS := mw 1247 rfl rfl
set_option maxRecDepth 100000 in
theorem wm_1248 : (.selects RX10 yX10_forget yX10_forget : Cond) ∈ WS := mw 1248 rfl rfl
set_option maxRecDepth 100000 in
theorem wm_1249 : (.code yX10_forget cX10_forget 3 (some .int) : Cond) ∈ WS := mw 1249 rfl rfl
set_option maxRecDepth 100000 in
theorem wm_1250 : (.methodLink RL 124 yX10_fakes : Cond) ∈ WS := mw 1250 rfl rfl
set_option maxRecDepth 100000 in
theorem wm_1251 : (.instanceMethod yX10_fakes : Cond) ∈ WS := mw 1251 rfl rfl
set_option maxRecDepth 100000 in
theorem wm_1252 : (.selects RX10 yX10_fakes yX10_fakes : Cond) ∈ WS := mw 1252 rfl rfl
set_option maxRecDepth 100000 in
theorem wm_1253 : (.code yX10_fakes cX10_fakes 9 (some .int) : Cond) ∈ WS := mw 1253 rfl rfl
set_option maxRecDepth 100000 in
theorem wm_1254 : (.constantLong RX10 260 (3) : Cond) ∈ WS := mw 1254 rfl rfl
set_option maxRecDepth 100000 in
theorem wm_1255 : (.methodLink RX10 262 yX10_isSo : Cond) ∈ WS := mw 1255 rfl rfl
set_option maxRecDepth 100000 in
theorem wm_1257 : (.instanceMethod yX10_isSo : Cond) ∈ WS := mw 1257 rfl rfl
set_option maxRecDepth 100000 in
theorem wm_1258 : (.code yX10_isSo cX10_isSo 5 (some .boolean) : Cond) ∈ WS := mw 1258 rfl rfl
set_option maxRecDepth 100000 in
theorem wm_1259 : (.methodLink RL 128 yX10_wrong : Cond) ∈ WS := mw 1259 rfl rfl
set_option maxRecDepth 100000 in
theorem wm_1260 : (.instanceMethod yX10_wrong : Cond) ∈ WS := mw 1260 rfl rfl
set_option maxRecDepth 100000 in
theorem wm_1261 : (.selects RX10 yX10_wrong yX10_wrong : Cond) ∈ WS := mw 1261 rfl rfl
set_option maxRecDepth 100000 in
theorem wm_1262 : (.code yX10_wrong cX10_wrong 3 (some .int) : Cond) ∈ WS := mw 1262 rfl rfl
set_option maxRecDepth 100000 in
theorem wm_1263 : (.methodLink RL 133 yX10_gulls : Cond) ∈ WS := mw 1263 rfl rfl
set_option maxRecDepth 100000 in
theorem wm_1264 : (.instanceMethod yX10_gulls : Cond) ∈ WS := mw 1264 rfl rfl
set_option maxRecDepth 100000 in
theorem wm_1265 : (.selects RX10 yX10_gulls yX10_gulls : Cond) ∈ WS := mw 1265 rfl rfl
set_option maxRecDepth 100000 in
theorem wm_1266 : (.code yX10_gulls cX10_gulls 8 (some .int) : Cond) ∈ WS := mw 1266 rfl rfl
set_option maxRecDepth 100000 in
theorem wm_1267 : (.constant RX10 265 (1103515245) : Cond) ∈ WS := mw 1267 rfl rfl
set_option maxRecDepth 100000 in
theorem wm_1268 : (.methodLink RL 137 yX10_keep : Cond) ∈ WS := mw 1268 rfl rfl
set_option maxRecDepth 100000 in
theorem wm_1269 : (.instanceMethod yX10_keep : Cond) ∈ WS := mw 1269 rfl rfl
set_option maxRecDepth 100000 in
theorem wm_1270 : (.selects RX10 yX10_keep yX10_keep : Cond) ∈ WS := mw 1270 rfl rfl
set_option maxRecDepth 100000 in
theorem wm_1271 : (.code yX10_keep cX10_keep 3 (some .int) : Cond) ∈ WS := mw 1271 rfl rfl
set_option maxRecDepth 100000 in
theorem wm_1272 : (.methodLink RX10 266 yX10_copies : Cond) ∈ WS := mw 1272 rfl rfl
set_option maxRecDepth 100000 in
theorem wm_1274 : (.instanceMethod yX10_copies : Cond) ∈ WS := mw 1274 rfl rfl
set_option maxRecDepth 100000 in
theorem wm_1275 : (.code yX10_copies cX10_copies 4 none : Cond) ∈ WS := mw 1275 rfl rfl
set_option maxRecDepth 100000 in
theorem wm_1276 : (.methodLink RL 141 yX10_back : Cond) ∈ WS := mw 1276 rfl rfl
set_option maxRecDepth 100000 in
theorem wm_1277 : (.instanceMethod yX10_back : Cond) ∈ WS := mw 1277 rfl rfl
set_option maxRecDepth 100000 in
theorem wm_1278 : (.selects RX10 yX10_back yX10_back : Cond) ∈ WS := mw 1278 rfl rfl
set_option maxRecDepth 100000 in
theorem wm_1279 : (.code yX10_back cX10_back 2 (some .int) : Cond) ∈ WS := mw 1279 rfl rfl
set_option maxRecDepth 100000 in
theorem wm_1280 : (.methodLink RL 145 yX10_sheet : Cond) ∈ WS := mw 1280 rfl rfl
set_option maxRecDepth 100000 in
theorem wm_1281 : (.instanceMethod yX10_sheet : Cond) ∈ WS := mw 1281 rfl rfl
set_option maxRecDepth 100000 in
theorem wm_1282 : (.selects RX10 yX10_sheet yX10_sheet : Cond) ∈ WS := mw 1282 rfl rfl
set_option maxRecDepth 100000 in
theorem wm_1283 : (.code yX10_sheet cX10_sheet 5 (some .int) : Cond) ∈ WS := mw 1283 rfl rfl
set_option maxRecDepth 100000 in
theorem wm_1284 : (.methodLink RX10 272 yX10_isSheet : Cond) ∈ WS := mw 1284 rfl rfl
set_option maxRecDepth 100000 in
theorem wm_1285 : (.static yX10_isSheet : Cond) ∈ WS := mw 1285 rfl rfl
set_option maxRecDepth 100000 in
theorem wm_1286 : (.code yX10_isSheet cX10_isSheet 2 (some .boolean) : Cond) ∈ WS := mw 1286 rfl rfl
set_option maxRecDepth 100000 in
theorem wm_1287 : (.constantLong RX10 270 (2) : Cond) ∈ WS := mw 1287 rfl rfl
set_option maxRecDepth 100000 in
theorem wm_1288 : (.methodLink RL 149 yX10_lay : Cond) ∈ WS := mw 1288 rfl rfl
set_option maxRecDepth 100000 in
theorem wm_1289 : (.instanceMethod yX10_lay : Cond) ∈ WS := mw 1289 rfl rfl
set_option maxRecDepth 100000 in
theorem wm_1290 : (.selects RX10 yX10_lay yX10_lay : Cond) ∈ WS := mw 1290 rfl rfl
set_option maxRecDepth 100000 in
theorem wm_1291 : (.code yX10_lay cX10_lay 4 (some .int) : Cond) ∈ WS := mw 1291 rfl rfl
set_option maxRecDepth 100000 in
theorem wm_1292 : (.methodLink RL 154 yX10_read : Cond) ∈ WS := mw 1292 rfl rfl
set_option maxRecDepth 100000 in
theorem wm_1293 : (.instanceMethod yX10_read : Cond) ∈ WS := mw 1293 rfl rfl
set_option maxRecDepth 100000 in
theorem wm_1294 : (.selects RX10 yX10_read yX10_read : Cond) ∈ WS := mw 1294 rfl rfl
set_option maxRecDepth 100000 in
theorem wm_1295 : (.code yX10_read cX10_read 12 (some .int) : Cond) ∈ WS := mw 1295 rfl rfl
set_option maxRecDepth 100000 in
theorem wm_1296 : (.methodLink RX10 275 yX10_mint : Cond) ∈ WS := mw 1296 rfl rfl
set_option maxRecDepth 100000 in
theorem wm_1297 : (.methodLink RL 158 yX10_torn : Cond) ∈ WS := mw 1297 rfl rfl
set_option maxRecDepth 100000 in
theorem wm_1298 : (.instanceMethod yX10_torn : Cond) ∈ WS := mw 1298 rfl rfl
set_option maxRecDepth 100000 in
theorem wm_1299 : (.selects RX10 yX10_torn yX10_torn : Cond) ∈ WS := mw 1299 rfl rfl
set_option maxRecDepth 100000 in
theorem wm_1300 : (.code yX10_torn cX10_torn 1 (some .int) : Cond) ∈ WS := mw 1300 rfl rfl
set_option maxRecDepth 100000 in
theorem wm_1301 : (.methodLink RL 162 yX10_count : Cond) ∈ WS := mw 1301 rfl rfl
set_option maxRecDepth 100000 in
theorem wm_1302 : (.instanceMethod yX10_count : Cond) ∈ WS := mw 1302 rfl rfl
set_option maxRecDepth 100000 in
theorem wm_1303 : (.selects RX10 yX10_count yX10_count : Cond) ∈ WS := mw 1303 rfl rfl
set_option maxRecDepth 100000 in
theorem wm_1304 : (.code yX10_count cX10_count 6 (some .int) : Cond) ∈ WS := mw 1304 rfl rfl
set_option maxRecDepth 100000 in
theorem wm_1305 : (.constantLong RL 13 (4294967295) : Cond) ∈ WS := mw 1305 rfl rfl
set_option maxRecDepth 100000 in
theorem wm_1306 : (.fieldLink RJ0 9 RJ0 "value" "[B" : Cond) ∈ WS := mw 1306 rfl rfl
set_option maxRecDepth 100000 in
theorem wm_1307 : (.fieldLink RJ0 15 RJ0 "coder" "B" : Cond) ∈ WS := mw 1307 rfl rfl
