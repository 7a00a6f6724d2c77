theorem lbX6_begin : lkB mX6_begin 4 = true := by decide +kernel
theorem lbX2_begin : lkB mX2_begin 1 = true := by decide +kernel
theorem lbX3_begin : lkB mX3_begin 0 = true := by decide +kernel
theorem lbX0_begin : lkB mX0_begin 0 = true := by decide +kernel
theorem lbJ7_fill_53178 : lkB mJ7_fill_53178 2 = true := by decide +kernel
theorem lbX1_begin : lkB mX1_begin 1 = true := by decide +kernel
theorem lbX2_forgetPleas : lkB mX2_forgetPleas 0 = true := by decide +kernel
theorem lbX5_begin : lkB mX5_begin 0 = true := by decide +kernel
theorem lbX6_slotOf : lkB mX6_slotOf 2 = true := by decide +kernel
theorem lbX6_isCounted : lkB mX6_isCounted 1 = true := by decide +kernel
theorem lbX6_setup : lkB mX6_setup 4 = true := by decide +kernel
theorem lbX6_pass : lkB mX6_pass 1 = true := by decide +kernel
theorem lbX6_windowAt : lkB mX6_windowAt 2 = true := by decide +kernel
theorem lbX2_turnTo : lkB mX2_turnTo 1 = true := by decide +kernel
theorem lbX1_look : lkB mX1_look 2 = true := by decide +kernel
theorem lbJ9_floorMod_7cf53 : lkB mJ9_floorMod_7cf53 2 = true := by decide +kernel
theorem lbX2_renew : lkB mX2_renew 1 = true := by decide +kernel
theorem lbJ9_max_f86c9 : lkB mJ9_max_f86c9 2 = true := by decide +kernel
theorem lbX1_drop : lkB mX1_drop 1 = true := by decide +kernel
theorem lbX6_error : lkB mX6_error 2 = true := by decide +kernel
theorem lbX6_gateAt : lkB mX6_gateAt 1 = true := by decide +kernel
theorem lbX6_rule : lkB mX6_rule 1 = true := by decide +kernel
theorem lbX6_admit : lkB mX6_admit 2 = true := by decide +kernel
theorem lbX6_mustBeUp : lkB mX6_mustBeUp 1 = true := by decide +kernel
theorem lbX1_spend : lkB mX1_spend 1 = true := by decide +kernel
theorem lbX0_add : lkB mX0_add 2 = true := by decide +kernel
theorem lbJ9_min_7cf53 : lkB mJ9_min_7cf53 2 = true := by decide +kernel
theorem lbJ9_max_7cf53 : lkB mJ9_max_7cf53 2 = true := by decide +kernel
theorem lbX0_row : lkB mX0_row 1 = true := by decide +kernel
theorem lbX0_openRow : lkB mX0_openRow 1 = true := by decide +kernel
theorem lbX0_forgetOldest : lkB mX0_forgetOldest 1 = true := by decide +kernel
theorem lbX6_plead : lkB mX6_plead 2 = true := by decide +kernel
theorem lbX6_mustBeOpen : lkB mX6_mustBeOpen 1 = true := by decide +kernel
theorem lbX1_spentIn : lkB mX1_spentIn 1 = true := by decide +kernel
theorem lbX5_send : lkB mX5_send 5 = true := by decide +kernel
theorem lbX5_isShut : lkB mX5_isShut 0 = true := by decide +kernel
theorem lbX3_put : lkB mX3_put 6 = true := by decide +kernel
theorem lbX6_back : lkB mX6_back 3 = true := by decide +kernel
theorem lbX1_freeIn : lkB mX1_freeIn 1 = true := by decide +kernel
theorem lbX1_addShare : lkB mX1_addShare 2 = true := by decide +kernel
theorem lbX6_split : lkB mX6_split 0 = true := by decide +kernel
theorem lbX6_shareOut : lkB mX6_shareOut 1 = true := by decide +kernel
theorem lbX4_begin : lkB mX4_begin 1 = true := by decide +kernel
theorem lbX4_enter : lkB mX4_enter 3 = true := by decide +kernel
theorem lbX4_giveByUse : lkB mX4_giveByUse 0 = true := by decide +kernel
theorem lbX4_giveEqually : lkB mX4_giveEqually 0 = true := by decide +kernel
theorem lbX6_grant : lkB mX6_grant 3 = true := by decide +kernel
theorem lbX4_wantingGates : lkB mX4_wantingGates 0 = true := by decide +kernel
theorem lbX4_useOfWanting : lkB mX4_useOfWanting 0 = true := by decide +kernel
theorem lbX4_giveParts : lkB mX4_giveParts 1 = true := by decide +kernel
theorem lbX4_giveRemainders : lkB mX4_giveRemainders 0 = true := by decide +kernel
theorem lbX4_wantsMore : lkB mX4_wantsMore 1 = true := by decide +kernel
theorem lbX4_giveLayer : lkB mX4_giveLayer 1 = true := by decide +kernel
theorem lbX4_leastWish : lkB mX4_leastWish 0 = true := by decide +kernel
theorem lbX4_give : lkB mX4_give 2 = true := by decide +kernel
theorem lbJ9_min_f86c9 : lkB mJ9_min_f86c9 2 = true := by decide +kernel
theorem lbX4_greatestRemainder : lkB mX4_greatestRemainder 0 = true := by decide +kernel
theorem lbX2_addUnits : lkB mX2_addUnits 2 = true := by decide +kernel
theorem lbX6_deliver : lkB mX6_deliver 1 = true := by decide +kernel
theorem lbX6_mustHaveLetter : lkB mX6_mustHaveLetter 1 = true := by decide +kernel
theorem lbX6_bring : lkB mX6_bring 1 = true := by decide +kernel
theorem lbX3_copyTo : lkB mX3_copyTo 2 = true := by decide +kernel
theorem lbX3_remove : lkB mX3_remove 1 = true := by decide +kernel
theorem lbX6_comeToGate : lkB mX6_comeToGate 1 = true := by decide +kernel
theorem lbX6_comeAsReceipt : lkB mX6_comeAsReceipt 2 = true := by decide +kernel
theorem lbX6_comeToDesk : lkB mX6_comeToDesk 1 = true := by decide +kernel
theorem lbX3_start : lkB mX3_start 1 = true := by decide +kernel
theorem lbX5_take : lkB mX5_take 1 = true := by decide +kernel
theorem lbX5_sendReceipt : lkB mX5_sendReceipt 2 = true := by decide +kernel
theorem lbX5_markReceived : lkB mX5_markReceived 1 = true := by decide +kernel
theorem lbX6_hearPlea : lkB mX6_hearPlea 1 = true := by decide +kernel
theorem lbX6_deliverAll : lkB mX6_deliverAll 1 = true := by decide +kernel
theorem lbX6_lose : lkB mX6_lose 1 = true := by decide +kernel
theorem lbX6_twice : lkB mX6_twice 1 = true := by decide +kernel
theorem lbX3_isFull : lkB mX3_isFull 0 = true := by decide +kernel
theorem lbX6_resend : lkB mX6_resend 1 = true := by decide +kernel
theorem lbX5_sendAnew : lkB mX5_sendAnew 1 = true := by decide +kernel
theorem lbX6_letter : lkB mX6_letter 2 = true := by decide +kernel
theorem lbX3_cell : lkB mX3_cell 2 = true := by decide +kernel
theorem lbX6_crash : lkB mX6_crash 1 = true := by decide +kernel
theorem lbX6_restart : lkB mX6_restart 1 = true := by decide +kernel
theorem lbX1_comeUp : lkB mX1_comeUp 0 = true := by decide +kernel
theorem lbX6_about : lkB mX6_about 2 = true := by decide +kernel
theorem lbX6_has : lkB mX6_has 3 = true := by decide +kernel
theorem lbX6_busiest : lkB mX6_busiest 1 = true := by decide +kernel
theorem lbX0_mostWithin : lkB mX0_mostWithin 1 = true := by decide +kernel
theorem lbX6_count : lkB mX6_count 1 = true := by decide +kernel
theorem lbX2_waitingPleas : lkB mX2_waitingPleas 0 = true := by decide +kernel
theorem lbX7_begin : lkB mX7_begin 4 = true := by decide +kernel
theorem lbX7_move : lkB mX7_move 4 = true := by decide +kernel
theorem lbX7_tick : lkB mX7_tick 1 = true := by decide +kernel
theorem lbX7_isGate : lkB mX7_isGate 1 = true := by decide +kernel
theorem lbX7_remember : lkB mX7_remember 0 = true := by decide +kernel
theorem lbX7_canSend : lkB mX7_canSend 1 = true := by decide +kernel
theorem lbX7_send : lkB mX7_send 6 = true := by decide +kernel
theorem lbX7_put : lkB mX7_put 6 = true := by decide +kernel
theorem lbX7_which : lkB mX7_which 2 = true := by decide +kernel
theorem lbX7_byUse : lkB mX7_byUse 2 = true := by decide +kernel
theorem lbX7_equal : lkB mX7_equal 1 = true := by decide +kernel
theorem lbX7_wantsMore : lkB mX7_wantsMore 1 = true := by decide +kernel
theorem lbX7_isLetter : lkB mX7_isLetter 1 = true := by decide +kernel
theorem lbX7_come : lkB mX7_come 1 = true := by decide +kernel
theorem lbX7_remove : lkB mX7_remove 1 = true := by decide +kernel
theorem lbX7_received : lkB mX7_received 2 = true := by decide +kernel
theorem lbX7_plea : lkB mX7_plea 4 = true := by decide +kernel
theorem lbX7_setup : lkB mX7_setup 4 = true := by decide +kernel
theorem lbX7_thrown : lkB mX7_thrown 0 = true := by decide +kernel
theorem lbX7_pass : lkB mX7_pass 1 = true := by decide +kernel
theorem lbX7_error : lkB mX7_error 2 = true := by decide +kernel
theorem lbX7_rule : lkB mX7_rule 1 = true := by decide +kernel
theorem lbX7_admit : lkB mX7_admit 2 = true := by decide +kernel
theorem lbX7_plead : lkB mX7_plead 2 = true := by decide +kernel
theorem lbX7_back : lkB mX7_back 3 = true := by decide +kernel
theorem lbX7_split : lkB mX7_split 0 = true := by decide +kernel
theorem lbX7_deliver : lkB mX7_deliver 1 = true := by decide +kernel
theorem lbX7_deliverAll : lkB mX7_deliverAll 1 = true := by decide +kernel
theorem lbX7_lose : lkB mX7_lose 1 = true := by decide +kernel
theorem lbX7_twice : lkB mX7_twice 1 = true := by decide +kernel
theorem lbX7_resend : lkB mX7_resend 1 = true := by decide +kernel
theorem lbX7_letter : lkB mX7_letter 2 = true := by decide +kernel
theorem lbX7_crash : lkB mX7_crash 1 = true := by decide +kernel
theorem lbX7_restart : lkB mX7_restart 1 = true := by decide +kernel
theorem lbX6_desk : lkB mX6_desk 1 = true := by decide +kernel
theorem lbX7_desk : lkB mX7_desk 1 = true := by decide +kernel
theorem lbX7_about : lkB mX7_about 2 = true := by decide +kernel
theorem lbX7_has : lkB mX7_has 3 = true := by decide +kernel
theorem lbX6_there : lkB mX6_there 1 = true := by decide +kernel
theorem lbX7_there : lkB mX7_there 1 = true := by decide +kernel
theorem lbX6_used : lkB mX6_used 1 = true := by decide +kernel
theorem lbX7_used : lkB mX7_used 1 = true := by decide +kernel
theorem lbX7_busiest : lkB mX7_busiest 1 = true := by decide +kernel
theorem lbX7_count : lkB mX7_count 1 = true := by decide +kernel
theorem lV6_53 : lkV 6 53 mX6_begin = true := by decide +kernel
theorem lV6_77 : lkV 6 77 mX2_begin = true := by decide +kernel
theorem lV6_79 : lkV 6 79 mX3_begin = true := by decide +kernel
theorem lV6_81 : lkV 6 81 mX0_begin = true := by decide +kernel
theorem lS6_82 : lkS 6 82 mJ7_fill_53178 = true := by decide +kernel
theorem lV6_88 : lkV 6 88 mX1_begin = true := by decide +kernel
theorem lS2_37 : lkS 2 37 mJ7_fill_53178 = true := by decide +kernel
theorem lV2_43 : lkV 2 43 mX2_forgetPleas = true := by decide +kernel
theorem lV1_33 : lkV 1 33 mX5_begin = true := by decide +kernel
theorem lS1_36 : lkS 1 36 mJ7_fill_53178 = true := by decide +kernel
theorem lV6_163 : lkV 6 163 mX2_forgetPleas = true := by decide +kernel
theorem lS6_166 : lkS 6 166 mX6_slotOf = true := by decide +kernel
theorem lS6_130 : lkS 6 130 mX6_isCounted = true := by decide +kernel
theorem lV8_7 : lkV 8 7 mX6_setup = true := by decide +kernel
theorem to_6_58_60 : thrOk 6 58 60 "java/lang/IllegalArgumentException" = true := by decide +kernel
theorem lV8_15 : lkV 8 15 mX6_pass = true := by decide +kernel
theorem lS6_91 : lkS 6 91 mX6_windowAt = true := by decide +kernel
theorem lV6_95 : lkV 6 95 mX2_turnTo = true := by decide +kernel
theorem lV6_98 : lkV 6 98 mX1_look = true := by decide +kernel
theorem lS2_46 : lkS 2 46 mJ9_floorMod_7cf53 = true := by decide +kernel
theorem lV2_52 : lkV 2 52 mX2_renew = true := by decide +kernel
theorem lS1_57 : lkS 1 57 mJ9_max_f86c9 = true := by decide +kernel
theorem lN1_63 : lkN 1 63 mX6_windowAt = true := by decide +kernel
theorem lS1_67 : lkS 1 67 mJ9_floorMod_7cf53 = true := by decide +kernel
theorem lV1_71 : lkV 1 71 mX1_drop = true := by decide +kernel
theorem lV8_19 : lkV 8 19 mX6_error = true := by decide +kernel
theorem lV6_102 : lkV 6 102 mX6_gateAt = true := by decide +kernel
theorem to_6_292_294 : thrOk 6 292 294 "java/lang/IndexOutOfBoundsException" = true := by decide +kernel
theorem lV8_25 : lkV 8 25 mX6_rule = true := by decide +kernel
theorem lV8_28 : lkV 8 28 mX6_admit = true := by decide +kernel
theorem lS6_116 : lkS 6 116 mX6_mustBeUp = true := by decide +kernel
theorem lV6_120 : lkV 6 120 mX1_spend = true := by decide +kernel
theorem lV6_124 : lkV 6 124 mX0_add = true := by decide +kernel
theorem to_6_295_297 : thrOk 6 295 297 "java/lang/IllegalStateException" = true := by decide +kernel
theorem lN1_74 : lkN 1 74 mX6_slotOf = true := by decide +kernel
theorem lS1_77 : lkS 1 77 mJ9_min_7cf53 = true := by decide +kernel
theorem lS1_80 : lkS 1 80 mJ9_max_7cf53 = true := by decide +kernel
theorem lV0_27 : lkV 0 27 mX0_row = true := by decide +kernel
theorem lV0_31 : lkV 0 31 mX0_openRow = true := by decide +kernel
theorem lV0_35 : lkV 0 35 mX0_forgetOldest = true := by decide +kernel
theorem lS0_39 : lkS 0 39 mJ9_min_7cf53 = true := by decide +kernel
theorem lV8_34 : lkV 8 34 mX6_plead = true := by decide +kernel
theorem lS6_138 : lkS 6 138 mX6_mustBeOpen = true := by decide +kernel
theorem lV6_142 : lkV 6 142 mX1_spentIn = true := by decide +kernel
theorem lV6_145 : lkV 6 145 mX5_send = true := by decide +kernel
theorem lV6_177 : lkV 6 177 mX5_isShut = true := by decide +kernel
theorem to_6_298_300 : thrOk 6 298 300 "java/lang/UnsupportedOperationException" = true := by decide +kernel
theorem lS5_35 : lkS 5 35 mJ9_floorMod_7cf53 = true := by decide +kernel
theorem lV5_41 : lkV 5 41 mX3_put = true := by decide +kernel
theorem lV8_39 : lkV 8 39 mX6_back = true := by decide +kernel
theorem lV6_151 : lkV 6 151 mX1_freeIn = true := by decide +kernel
theorem lV6_154 : lkV 6 154 mX1_addShare = true := by decide +kernel
theorem lV8_43 : lkV 8 43 mX6_split = true := by decide +kernel
theorem lV6_160 : lkV 6 160 mX6_shareOut = true := by decide +kernel
theorem lV6_173 : lkV 6 173 mX4_begin = true := by decide +kernel
theorem lV6_188 : lkV 6 188 mX4_enter = true := by decide +kernel
theorem lV6_192 : lkV 6 192 mX4_giveByUse = true := by decide +kernel
theorem lV6_195 : lkV 6 195 mX4_giveEqually = true := by decide +kernel
theorem lV6_201 : lkV 6 201 mX6_grant = true := by decide +kernel
theorem lS4_29 : lkS 4 29 mJ7_fill_53178 = true := by decide +kernel
theorem lV4_39 : lkV 4 39 mX4_wantingGates = true := by decide +kernel
theorem lV4_60 : lkV 4 60 mX4_useOfWanting = true := by decide +kernel
theorem lV4_64 : lkV 4 64 mX4_giveEqually = true := by decide +kernel
theorem lV4_67 : lkV 4 67 mX4_giveParts = true := by decide +kernel
theorem lV4_71 : lkV 4 71 mX4_giveRemainders = true := by decide +kernel
theorem lV4_35 : lkV 4 35 mX4_wantsMore = true := by decide +kernel
theorem lV4_43 : lkV 4 43 mX4_giveLayer = true := by decide +kernel
theorem lV4_47 : lkV 4 47 mX4_leastWish = true := by decide +kernel
theorem lS4_50 : lkS 4 50 mJ9_min_7cf53 = true := by decide +kernel
theorem lV4_56 : lkV 4 56 mX4_give = true := by decide +kernel
theorem lS4_74 : lkS 4 74 mJ9_min_f86c9 = true := by decide +kernel
theorem lV4_77 : lkV 4 77 mX4_greatestRemainder = true := by decide +kernel
theorem lV6_205 : lkV 6 205 mX2_addUnits = true := by decide +kernel
theorem lN2_56 : lkN 2 56 mX6_slotOf = true := by decide +kernel
theorem lV8_47 : lkV 8 47 mX6_deliver = true := by decide +kernel
theorem lV6_208 : lkV 6 208 mX6_mustHaveLetter = true := by decide +kernel
theorem lV6_211 : lkV 6 211 mX6_bring = true := by decide +kernel
theorem lV6_217 : lkV 6 217 mX3_copyTo = true := by decide +kernel
theorem lV6_221 : lkV 6 221 mX3_remove = true := by decide +kernel
theorem lV6_224 : lkV 6 224 mX6_comeToGate = true := by decide +kernel
theorem lV6_228 : lkV 6 228 mX6_comeAsReceipt = true := by decide +kernel
theorem lV6_232 : lkV 6 232 mX6_comeToDesk = true := by decide +kernel
theorem lV3_22 : lkV 3 22 mX3_start = true := by decide +kernel
theorem lV6_238 : lkV 6 238 mX5_take = true := by decide +kernel
theorem lV6_241 : lkV 6 241 mX5_sendReceipt = true := by decide +kernel
theorem lV6_235 : lkV 6 235 mX5_markReceived = true := by decide +kernel
theorem lS5_47 : lkS 5 47 mJ9_max_7cf53 = true := by decide +kernel
theorem lV6_245 : lkV 6 245 mX6_hearPlea = true := by decide +kernel
theorem lS6_249 : lkS 6 249 mJ9_min_7cf53 = true := by decide +kernel
theorem lV8_51 : lkV 8 51 mX6_deliverAll = true := by decide +kernel
theorem lV8_54 : lkV 8 54 mX6_lose = true := by decide +kernel
theorem lV8_57 : lkV 8 57 mX6_twice = true := by decide +kernel
theorem lV6_254 : lkV 6 254 mX3_isFull = true := by decide +kernel
theorem lV6_257 : lkV 6 257 mX3_put = true := by decide +kernel
theorem lV8_60 : lkV 8 60 mX6_resend = true := by decide +kernel
theorem lV6_261 : lkV 6 261 mX5_sendAnew = true := by decide +kernel
theorem lV8_63 : lkV 8 63 mX6_letter = true := by decide +kernel
theorem lV6_265 : lkV 6 265 mX3_cell = true := by decide +kernel
theorem lV8_66 : lkV 8 66 mX6_crash = true := by decide +kernel
theorem lV8_69 : lkV 8 69 mX6_restart = true := by decide +kernel
theorem lV6_268 : lkV 6 268 mX1_comeUp = true := by decide +kernel
theorem lV8_73 : lkV 8 73 mX6_about = true := by decide +kernel
theorem lV8_77 : lkV 8 77 mX6_has = true := by decide +kernel
theorem lV8_81 : lkV 8 81 mX6_busiest = true := by decide +kernel
theorem lV6_283 : lkV 6 283 mX0_mostWithin = true := by decide +kernel
theorem lS0_45 : lkS 0 45 mJ9_max_7cf53 = true := by decide +kernel
theorem lV8_84 : lkV 8 84 mX6_count = true := by decide +kernel
theorem lV6_288 : lkV 6 288 mX2_waitingPleas = true := by decide +kernel
theorem lV7_75 : lkV 7 75 mX7_begin = true := by decide +kernel
theorem lS7_120 : lkS 7 120 mX7_move = true := by decide +kernel
theorem lV7_124 : lkV 7 124 mX7_tick = true := by decide +kernel
theorem lV7_128 : lkV 7 128 mX7_isGate = true := by decide +kernel
theorem lV7_132 : lkV 7 132 mX7_remember = true := by decide +kernel
theorem lV7_139 : lkV 7 139 mX7_canSend = true := by decide +kernel
theorem lV7_142 : lkV 7 142 mX7_send = true := by decide +kernel
theorem lV7_135 : lkV 7 135 mX7_put = true := by decide +kernel
theorem lS7_145 : lkS 7 145 mX7_which = true := by decide +kernel
theorem lV7_166 : lkV 7 166 mX7_byUse = true := by decide +kernel
theorem lV7_162 : lkV 7 162 mX7_equal = true := by decide +kernel
theorem lV7_159 : lkV 7 159 mX7_wantsMore = true := by decide +kernel
theorem lV7_169 : lkV 7 169 mX7_isLetter = true := by decide +kernel
theorem lV7_172 : lkV 7 172 mX7_come = true := by decide +kernel
theorem lV7_149 : lkV 7 149 mX7_remove = true := by decide +kernel
theorem lV7_152 : lkV 7 152 mX7_received = true := by decide +kernel
theorem lV7_156 : lkV 7 156 mX7_plea = true := by decide +kernel
theorem lV8_96 : lkV 8 96 mX7_setup = true := by decide +kernel
theorem lV8_97 : lkV 8 97 mX7_thrown = true := by decide +kernel
theorem lV8_103 : lkV 8 103 mX7_pass = true := by decide +kernel
theorem lV8_107 : lkV 8 107 mX7_error = true := by decide +kernel
theorem lV8_110 : lkV 8 110 mX7_rule = true := by decide +kernel
theorem lV8_114 : lkV 8 114 mX7_admit = true := by decide +kernel
theorem lV8_117 : lkV 8 117 mX7_plead = true := by decide +kernel
theorem lV8_121 : lkV 8 121 mX7_back = true := by decide +kernel
theorem lV8_125 : lkV 8 125 mX7_split = true := by decide +kernel
theorem lV8_129 : lkV 8 129 mX7_deliver = true := by decide +kernel
theorem lV8_132 : lkV 8 132 mX7_deliverAll = true := by decide +kernel
theorem lV8_135 : lkV 8 135 mX7_lose = true := by decide +kernel
theorem lV8_138 : lkV 8 138 mX7_twice = true := by decide +kernel
theorem lV8_141 : lkV 8 141 mX7_resend = true := by decide +kernel
theorem lV8_144 : lkV 8 144 mX7_letter = true := by decide +kernel
theorem lV8_147 : lkV 8 147 mX7_crash = true := by decide +kernel
theorem lV8_150 : lkV 8 150 mX7_restart = true := by decide +kernel
theorem lV8_151 : lkV 8 151 mX6_desk = true := by decide +kernel
theorem lV8_155 : lkV 8 155 mX7_desk = true := by decide +kernel
theorem lV8_158 : lkV 8 158 mX7_about = true := by decide +kernel
theorem lV8_162 : lkV 8 162 mX7_has = true := by decide +kernel
theorem lV8_163 : lkV 8 163 mX6_there = true := by decide +kernel
theorem lV8_166 : lkV 8 166 mX7_there = true := by decide +kernel
theorem lV8_167 : lkV 8 167 mX6_used = true := by decide +kernel
theorem lV8_170 : lkV 8 170 mX7_used = true := by decide +kernel
theorem lV8_173 : lkV 8 173 mX7_busiest = true := by decide +kernel
theorem lV8_176 : lkV 8 176 mX7_count = true := by decide +kernel
