/-! lookups, one by one (printed by program) -/
theorem f_0_9 : q_lk (q_fl 0) 9 = some (0, 0, 296) := rfl
theorem f_0_15 : q_lk (q_fl 0) 15 = some (0, 1, 297) := rfl
theorem f_0_19 : q_lk (q_fl 0) 19 = some (0, 2, 298) := rfl
theorem f_0_24 : q_lk (q_fl 0) 24 = some (0, 3, 299) := rfl
theorem f_0_27 : q_lk (q_fl 0) 27 = some (0, 4, 300) := rfl
theorem f_0_31 : q_lk (q_fl 0) 31 = some (0, 5, 301) := rfl
theorem f_0_64 : q_lk (q_fl 0) 64 = some (6, 7, 215) := rfl
theorem f_0_68 : q_lk (q_fl 0) 68 = some (5, 2, 130) := rfl
theorem f_0_74 : q_lk (q_fl 0) 74 = some (5, 0, 122) := rfl
theorem f_0_84 : q_lk (q_fl 0) 84 = some (5, 1, 126) := rfl
theorem f_0_87 : q_lk (q_fl 0) 87 = some (3, 4, 178) := rfl
theorem f_0_92 : q_lk (q_fl 0) 92 = some (3, 1, 169) := rfl
theorem f_0_98 : q_lk (q_fl 0) 98 = some (6, 5, 209) := rfl
theorem f_0_108 : q_lk (q_fl 0) 108 = some (0, 6, 302) := rfl
theorem f_0_111 : q_lk (q_fl 0) 111 = some (6, 0, 197) := rfl
theorem f_0_114 : q_lk (q_fl 0) 114 = some (0, 7, 303) := rfl
theorem f_0_117 : q_lk (q_fl 0) 117 = some (6, 1, 200) := rfl
theorem f_0_120 : q_lk (q_fl 0) 120 = some (0, 8, 304) := rfl
theorem f_1_11 : q_lk (q_fl 1) 11 = some (1, 0, 252) := rfl
theorem f_1_18 : q_lk (q_fl 1) 18 = some (1, 1, 253) := rfl
theorem f_1_26 : q_lk (q_fl 1) 26 = some (1, 2, 254) := rfl
theorem f_2_9 : q_lk (q_fl 2) 9 = some (2, 0, 269) := rfl
theorem f_2_15 : q_lk (q_fl 2) 15 = some (2, 1, 271) := rfl
theorem f_2_23 : q_lk (q_fl 2) 23 = some (2, 2, 275) := rfl
theorem f_2_26 : q_lk (q_fl 2) 26 = some (2, 3, 277) := rfl
theorem f_3_9 : q_lk (q_fl 3) 9 = some (3, 4, 177) := rfl
theorem f_3_15 : q_lk (q_fl 3) 15 = some (3, 3, 174) := rfl
theorem f_3_19 : q_lk (q_fl 3) 19 = some (3, 0, 165) := rfl
theorem f_3_22 : q_lk (q_fl 3) 22 = some (3, 1, 168) := rfl
theorem f_3_25 : q_lk (q_fl 3) 25 = some (3, 2, 171) := rfl
theorem f_4_9 : q_lk (q_fl 4) 9 = some (4, 0, 331) := rfl
theorem f_4_15 : q_lk (q_fl 4) 15 = some (4, 1, 332) := rfl
theorem f_4_19 : q_lk (q_fl 4) 19 = some (4, 2, 333) := rfl
theorem f_4_22 : q_lk (q_fl 4) 22 = some (4, 3, 334) := rfl
theorem f_4_26 : q_lk (q_fl 4) 26 = some (4, 4, 335) := rfl
theorem f_4_43 : q_lk (q_fl 4) 43 = some (6, 7, 214) := rfl
theorem f_4_49 : q_lk (q_fl 4) 49 = some (4, 5, 337) := rfl
theorem f_4_53 : q_lk (q_fl 4) 53 = some (5, 0, 121) := rfl
theorem f_4_73 : q_lk (q_fl 4) 73 = some (4, 6, 338) := rfl
theorem f_4_94 : q_lk (q_fl 4) 94 = some (4, 7, 339) := rfl
theorem f_4_116 : q_lk (q_fl 4) 116 = some (6, 9, 220) := rfl
theorem f_5_9 : q_lk (q_fl 5) 9 = some (5, 6, 140) := rfl
theorem f_5_15 : q_lk (q_fl 5) 15 = some (5, 2, 129) := rfl
theorem f_5_19 : q_lk (q_fl 5) 19 = some (5, 0, 120) := rfl
theorem f_5_22 : q_lk (q_fl 5) 22 = some (5, 1, 125) := rfl
theorem f_5_25 : q_lk (q_fl 5) 25 = some (5, 3, 133) := rfl
theorem f_5_28 : q_lk (q_fl 5) 28 = some (5, 4, 136) := rfl
theorem f_5_31 : q_lk (q_fl 5) 31 = some (5, 5, 139) := rfl
theorem f_6_9 : q_lk (q_fl 6) 9 = some (6, 0, 196) := rfl
theorem f_6_15 : q_lk (q_fl 6) 15 = some (6, 1, 199) := rfl
theorem f_6_18 : q_lk (q_fl 6) 18 = some (6, 5, 208) := rfl
theorem f_6_22 : q_lk (q_fl 6) 22 = some (6, 6, 211) := rfl
theorem f_6_28 : q_lk (q_fl 6) 28 = some (6, 7, 213) := rfl
theorem f_6_35 : q_lk (q_fl 6) 35 = some (6, 8, 217) := rfl
theorem f_6_40 : q_lk (q_fl 6) 40 = some (6, 9, 219) := rfl
theorem f_6_52 : q_lk (q_fl 6) 52 = some (6, 2, 202) := rfl
theorem f_6_55 : q_lk (q_fl 6) 55 = some (6, 3, 204) := rfl
theorem f_6_58 : q_lk (q_fl 6) 58 = some (6, 4, 206) := rfl
theorem f_6_68 : q_lk (q_fl 6) 68 = some (2, 2, 274) := rfl
theorem f_6_71 : q_lk (q_fl 6) 71 = some (2, 3, 276) := rfl
theorem f_6_72 : q_lk (q_fl 6) 72 = some (2, 1, 273) := rfl
theorem f_6_75 : q_lk (q_fl 6) 75 = some (2, 0, 270) := rfl
theorem f_6_112 : q_lk (q_fl 6) 112 = some (5, 2, 132) := rfl
theorem f_6_118 : q_lk (q_fl 6) 118 = some (3, 2, 172) := rfl
theorem f_6_127 : q_lk (q_fl 6) 127 = some (3, 3, 175) := rfl
theorem f_6_143 : q_lk (q_fl 6) 143 = some (3, 0, 166) := rfl
theorem f_6_152 : q_lk (q_fl 6) 152 = some (5, 3, 134) := rfl
theorem f_6_155 : q_lk (q_fl 6) 155 = some (5, 1, 128) := rfl
theorem f_6_158 : q_lk (q_fl 6) 158 = some (5, 4, 138) := rfl
theorem f_6_168 : q_lk (q_fl 6) 168 = some (5, 0, 124) := rfl
theorem f_7_12 : q_lk (q_fl 7) 12 = some (7, 0, 357) := rfl
theorem f_7_16 : q_lk (q_fl 7) 16 = some (7, 1, 358) := rfl
theorem f_7_22 : q_lk (q_fl 7) 22 = some (7, 2, 359) := rfl
theorem f_7_29 : q_lk (q_fl 7) 29 = some (7, 3, 360) := rfl
theorem f_7_38 : q_lk (q_fl 7) 38 = some (7, 4, 361) := rfl
theorem f_7_45 : q_lk (q_fl 7) 45 = some (7, 5, 362) := rfl
theorem f_7_49 : q_lk (q_fl 7) 49 = some (7, 6, 363) := rfl
theorem f_7_53 : q_lk (q_fl 7) 53 = some (7, 7, 364) := rfl
theorem f_7_57 : q_lk (q_fl 7) 57 = some (7, 8, 365) := rfl
theorem f_7_60 : q_lk (q_fl 7) 60 = some (7, 9, 366) := rfl
theorem f_7_74 : q_lk (q_fl 7) 74 = some (2, 1, 272) := rfl
theorem f_7_112 : q_lk (q_fl 7) 112 = some (6, 3, 205) := rfl
theorem f_7_131 : q_lk (q_fl 7) 131 = some (6, 7, 216) := rfl
theorem f_7_135 : q_lk (q_fl 7) 135 = some (5, 2, 131) := rfl
theorem f_7_151 : q_lk (q_fl 7) 151 = some (6, 4, 207) := rfl
theorem f_7_157 : q_lk (q_fl 7) 157 = some (6, 5, 210) := rfl
theorem f_7_164 : q_lk (q_fl 7) 164 = some (6, 8, 218) := rfl
theorem f_7_189 : q_lk (q_fl 7) 189 = some (6, 6, 212) := rfl
theorem f_7_202 : q_lk (q_fl 7) 202 = some (6, 9, 221) := rfl
theorem f_7_220 : q_lk (q_fl 7) 220 = some (4, 4, 336) := rfl
theorem f_7_230 : q_lk (q_fl 7) 230 = some (5, 4, 137) := rfl
theorem f_7_233 : q_lk (q_fl 7) 233 = some (5, 0, 123) := rfl
theorem f_7_239 : q_lk (q_fl 7) 239 = some (5, 1, 127) := rfl
theorem f_7_285 : q_lk (q_fl 7) 285 = some (5, 3, 135) := rfl
theorem f_7_294 : q_lk (q_fl 7) 294 = some (3, 0, 167) := rfl
theorem f_7_297 : q_lk (q_fl 7) 297 = some (3, 1, 170) := rfl
theorem f_7_300 : q_lk (q_fl 7) 300 = some (3, 2, 173) := rfl
theorem f_7_306 : q_lk (q_fl 7) 306 = some (3, 3, 176) := rfl
theorem f_7_309 : q_lk (q_fl 7) 309 = some (3, 4, 179) := rfl
theorem f_7_334 : q_lk (q_fl 7) 334 = some (6, 0, 198) := rfl
theorem f_7_337 : q_lk (q_fl 7) 337 = some (6, 1, 201) := rfl
theorem f_7_340 : q_lk (q_fl 7) 340 = some (6, 2, 203) := rfl
theorem f_7_352 : q_lk (q_fl 7) 352 = some (1, 2, 255) := rfl
theorem f_8_9 : q_lk (q_fl 8) 9 = some (8, 0, 1275) := rfl
theorem f_8_13 : q_lk (q_fl 8) 13 = some (8, 1, 1276) := rfl
theorem f_8_16 : q_lk (q_fl 8) 16 = some (8, 3, 1278) := rfl
theorem f_8_19 : q_lk (q_fl 8) 19 = some (8, 8, 1283) := rfl
theorem f_8_22 : q_lk (q_fl 8) 22 = some (8, 9, 1284) := rfl
theorem f_8_26 : q_lk (q_fl 8) 26 = some (8, 10, 1285) := rfl
theorem f_8_29 : q_lk (q_fl 8) 29 = some (8, 11, 1286) := rfl
theorem f_8_32 : q_lk (q_fl 8) 32 = some (8, 12, 1287) := rfl
theorem f_8_35 : q_lk (q_fl 8) 35 = some (8, 13, 1288) := rfl
theorem f_8_38 : q_lk (q_fl 8) 38 = some (8, 14, 1289) := rfl
theorem f_8_41 : q_lk (q_fl 8) 41 = some (8, 15, 1290) := rfl
theorem f_8_45 : q_lk (q_fl 8) 45 = some (8, 17, 1292) := rfl
theorem f_8_49 : q_lk (q_fl 8) 49 = some (8, 5, 1280) := rfl
theorem f_8_52 : q_lk (q_fl 8) 52 = some (8, 4, 1279) := rfl
theorem f_8_61 : q_lk (q_fl 8) 61 = some (8, 6, 1281) := rfl
theorem f_8_64 : q_lk (q_fl 8) 64 = some (8, 7, 1282) := rfl
theorem f_8_192 : q_lk (q_fl 8) 192 = some (8, 16, 1291) := rfl
theorem f_8_195 : q_lk (q_fl 8) 195 = some (8, 18, 1293) := rfl
theorem f_8_198 : q_lk (q_fl 8) 198 = some (8, 19, 1294) := rfl
theorem f_8_207 : q_lk (q_fl 8) 207 = some (8, 2, 1277) := rfl
theorem f_12_9 : q_lk (q_fl 12) 9 = some (9, 0, 1748) := rfl
theorem f_12_15 : q_lk (q_fl 12) 15 = some (9, 1, 1747) := rfl
theorem c_0_34 : q_lk (q_cal 0) 34 = some (1, 1, q_m_X0_measureFrom, 982, 984, 29, 79) := rfl
theorem c_0_38 : q_lk (q_cal 0) 38 = some (1, 1, q_m_X0_stepsTo, 990, 992, 30, 79) := rfl
theorem c_0_42 : q_lk (q_cal 0) 42 = some (1, 1, q_m_X6_isCell, 987, 569, 570, 73) := rfl
theorem c_0_48 : q_lk (q_cal 0) 48 = some (0, 2, q_m_J7_fill_53178, 986, 799, 0, 94) := rfl
theorem c_0_54 : q_lk (q_cal 0) 54 = some (1, 2, q_m_X6_neighbor, 988, 802, 803, 73) := rfl
theorem c_0_58 : q_lk (q_cal 0) 58 = some (1, 1, q_m_X6_canEnter, 989, 578, 579, 73) := rfl
theorem c_0_61 : q_lk (q_cal 0) 61 = some (1, 1, q_m_X6_isRobot, 1163, 591, 592, 73) := rfl
theorem c_0_77 : q_lk (q_cal 0) 77 = some (1, 2, q_m_X0_between, 1164, 979, 980, 79) := rfl
theorem c_0_80 : q_lk (q_cal 0) 80 = some (1, 4, q_m_X0_isBetter, 1165, 1167, 39, 79) := rfl
theorem c_0_95 : q_lk (q_cal 0) 95 = some (1, 1, q_m_X0_toNearestStation, 1180, 1182, 40, 79) := rfl
theorem c_0_101 : q_lk (q_cal 0) 101 = some (1, 0, q_m_X0_renewTable, 1020, 1022, 31, 79) := rfl
theorem c_0_104 : q_lk (q_cal 0) 104 = some (1, 0, q_m_X0_openCells, 1024, 1026, 32, 79) := rfl
theorem c_0_124 : q_lk (q_cal 0) 124 = some (1, 0, q_m_X0_fillTable, 1028, 1030, 33, 79) := rfl
theorem c_0_127 : q_lk (q_cal 0) 127 = some (1, 1, q_m_X0_nearOfNeighbors, 1032, 1034, 34, 79) := rfl
theorem c_0_133 : q_lk (q_cal 0) 133 = some (0, 3, q_m_X0_noteRound, 1037, 1038, 0, 79) := rfl
theorem c_1_17 : q_lk (q_cal 1) 17 = some (2, 0, q_m_X6_init, 251, 110, 0, 73) := rfl
theorem c_1_22 : q_lk (q_cal 1) 22 = some (1, 1, q_m_X6_copyFrom, 543, 397, 398, 73) := rfl
theorem c_2_19 : q_lk (q_cal 2) 19 = some (1, 0, q_m_X2_isFull, 494, 419, 420, 78) := rfl
theorem c_2_29 : q_lk (q_cal 2) 29 = some (1, 1, q_m_X2_canEndRow, 507, 509, 1, 78) := rfl
theorem c_2_33 : q_lk (q_cal 2) 33 = some (1, 1, q_m_X2_endRow, 511, 513, 2, 78) := rfl
theorem c_2_37 : q_lk (q_cal 2) 37 = some (0, 1, q_m_X2_kindOf, 515, 516, 0, 78) := rfl
theorem c_2_41 : q_lk (q_cal 2) 41 = some (1, 1, q_m_X2_canGrowRow, 520, 522, 3, 78) := rfl
theorem c_4_29 : q_lk (q_cal 4) 29 = some (1, 2, q_m_X4_prepare, 767, 769, 16, 80) := rfl
theorem c_4_33 : q_lk (q_cal 4) 33 = some (0, 2, q_m_J7_fill_53178, 798, 799, 0, 94) := rfl
theorem c_4_39 : q_lk (q_cal 4) 39 = some (1, 0, q_m_X4_horizon, 793, 795, 18, 80) := rfl
theorem c_4_58 : q_lk (q_cal 4) 58 = some (1, 2, q_m_X6_neighbor, 801, 802, 803, 73) := rfl
theorem c_4_62 : q_lk (q_cal 4) 62 = some (1, 3, q_m_X4_canStep, 809, 811, 20, 80) := rfl
theorem c_4_66 : q_lk (q_cal 4) 66 = some (1, 2, q_m_X4_canEndAt, 821, 823, 23, 80) := rfl
theorem c_4_69 : q_lk (q_cal 4) 69 = some (1, 1, q_m_X4_tracePath, 825, 827, 24, 80) := rfl
theorem c_4_76 : q_lk (q_cal 4) 76 = some (1, 2, q_m_X4_cellsAfter, 1105, 1107, 35, 80) := rfl
theorem c_4_80 : q_lk (q_cal 4) 80 = some (1, 1, q_m_X6_isCell, 772, 569, 570, 73) := rfl
theorem c_4_84 : q_lk (q_cal 4) 84 = some (1, 3, q_m_X4_canComeTo, 1109, 1111, 36, 80) := rfl
theorem c_4_88 : q_lk (q_cal 4) 88 = some (1, 1, q_m_X6_isRobot, 771, 591, 592, 73) := rfl
theorem c_4_91 : q_lk (q_cal 4) 91 = some (1, 1, q_m_X6_canEnter, 773, 578, 579, 73) := rfl
theorem c_4_97 : q_lk (q_cal 4) 97 = some (0, 2, q_m_J7_fill_d0a16, 774, 775, 0, 94) := rfl
theorem c_4_100 : q_lk (q_cal 4) 100 = some (1, 1, q_m_X4_noteOther, 777, 779, 17, 80) := rfl
theorem c_4_104 : q_lk (q_cal 4) 104 = some (1, 1, q_m_X5_cellAhead, 781, 599, 600, 74) := rfl
theorem c_4_108 : q_lk (q_cal 4) 108 = some (1, 1, q_m_X5_lastTickIn, 782, 783, 784, 74) := rfl
theorem c_4_122 : q_lk (q_cal 4) 122 = some (1, 2, q_m_X4_isTaken, 813, 815, 21, 80) := rfl
theorem c_4_125 : q_lk (q_cal 4) 125 = some (1, 3, q_m_X4_changesPlaces, 817, 819, 22, 80) := rfl
theorem c_5_40 : q_lk (q_cal 5) 40 = some (1, 1, q_m_X5_cellAhead, 598, 599, 600, 74) := rfl
theorem c_5_44 : q_lk (q_cal 5) 44 = some (1, 0, q_m_X5_lastCell, 786, 787, 788, 74) := rfl
theorem c_6_32 : q_lk (q_cal 6) 32 = some (2, 0, q_m_X5_init, 116, 117, 0, 74) := rfl
theorem c_6_39 : q_lk (q_cal 6) 39 = some (2, 0, q_m_X3_init, 161, 162, 0, 75) := rfl
theorem c_6_61 : q_lk (q_cal 6) 61 = some (1, 1, q_m_X5_copyFrom, 400, 401, 402, 74) := rfl
theorem c_6_65 : q_lk (q_cal 6) 65 = some (1, 1, q_m_X3_copyFrom, 405, 406, 407, 75) := rfl
theorem c_6_79 : q_lk (q_cal 6) 79 = some (0, 1, q_m_X2_kindOf, 551, 516, 0, 78) := rfl
theorem c_6_83 : q_lk (q_cal 6) 83 = some (1, 0, q_m_X6_cellCount, 572, 553, 554, 73) := rfl
theorem c_6_87 : q_lk (q_cal 6) 87 = some (1, 1, q_m_X6_isCell, 581, 569, 570, 73) := rfl
theorem c_6_91 : q_lk (q_cal 6) 91 = some (1, 1, q_m_X6_columnOf, 805, 807, 19, 73) := rfl
theorem c_6_95 : q_lk (q_cal 6) 95 = some (1, 2, q_m_X6_neighbor, 957, 802, 803, 73) := rfl
theorem c_6_99 : q_lk (q_cal 6) 99 = some (1, 1, q_m_X6_canEnter, 958, 578, 579, 73) := rfl
theorem c_6_102 : q_lk (q_cal 6) 102 = some (1, 2, q_m_X5_begin, 621, 622, 623, 74) := rfl
theorem c_6_106 : q_lk (q_cal 6) 106 = some (1, 1, q_m_X6_isRobot, 590, 591, 592, 73) := rfl
theorem c_6_109 : q_lk (q_cal 6) 109 = some (1, 4, q_m_X3_begin, 664, 665, 666, 75) := rfl
theorem c_6_115 : q_lk (q_cal 6) 115 = some (1, 1, q_m_X6_isOrder, 687, 680, 681, 73) := rfl
theorem c_6_121 : q_lk (q_cal 6) 121 = some (1, 1, q_m_X5_cellAhead, 952, 599, 600, 74) := rfl
theorem c_6_124 : q_lk (q_cal 6) 124 = some (1, 1, q_m_X5_isEverIn, 594, 595, 596, 74) := rfl
theorem c_6_130 : q_lk (q_cal 6) 130 = some (1, 1, q_m_X6_robotWith, 688, 689, 690, 73) := rfl
theorem c_6_133 : q_lk (q_cal 6) 133 = some (1, 1, q_m_X6_stateOf, 1139, 684, 685, 73) := rfl
theorem c_6_136 : q_lk (q_cal 6) 136 = some (1, 1, q_m_X6_waitingBefore, 1144, 1146, 37, 73) := rfl
theorem c_6_139 : q_lk (q_cal 6) 139 = some (1, 2, q_m_X6_isRankedBefore, 1148, 1150, 38, 73) := rfl
theorem c_6_146 : q_lk (q_cal 6) 146 = some (1, 0, q_m_X3_linesLeft, 887, 693, 694, 75) := rfl
theorem c_6_149 : q_lk (q_cal 6) 149 = some (1, 1, q_m_X6_isLoaded, 841, 842, 843, 73) := rfl
theorem c_6_161 : q_lk (q_cal 6) 161 = some (1, 0, q_m_X5_goOn, 875, 876, 877, 74) := rfl
theorem c_6_164 : q_lk (q_cal 6) 164 = some (1, 1, q_m_X6_endPlan, 879, 881, 28, 73) := rfl
theorem c_6_171 : q_lk (q_cal 6) 171 = some (1, 1, q_m_X5_charge, 888, 889, 890, 74) := rfl
theorem c_6_175 : q_lk (q_cal 6) 175 = some (1, 1, q_m_X3_isNextLine, 883, 884, 885, 75) := rfl
theorem c_7_11 : q_lk (q_cal 7) 11 = some (2, 0, q_m_X6_init, 109, 110, 0, 73) := rfl
theorem c_7_21 : q_lk (q_cal 7) 21 = some (2, 0, q_m_X1_init, 245, 246, 0, 77) := rfl
theorem c_7_28 : q_lk (q_cal 7) 28 = some (2, 0, q_m_X2_init, 265, 266, 0, 78) := rfl
theorem c_7_35 : q_lk (q_cal 7) 35 = some (2, 1, q_m_X0_init, 290, 291, 0, 79) := rfl
theorem c_7_44 : q_lk (q_cal 7) 44 = some (2, 1, q_m_X4_init, 327, 328, 0, 80) := rfl
theorem c_7_63 : q_lk (q_cal 7) 63 = some (1, 0, q_m_X2_isFull, 418, 419, 420, 78) := rfl
theorem c_7_70 : q_lk (q_cal 7) 70 = some (1, 1, q_m_X2_take, 490, 491, 492, 78) := rfl
theorem c_7_77 : q_lk (q_cal 7) 77 = some (1, 0, q_m_X2_findFault, 503, 504, 505, 78) := rfl
theorem c_7_84 : q_lk (q_cal 7) 84 = some (1, 1, q_m_X1_keep, 539, 540, 541, 77) := rfl
theorem c_7_87 : q_lk (q_cal 7) 87 = some (1, 1, q_m_X6_rebuild, 547, 548, 549, 73) := rfl
theorem c_7_91 : q_lk (q_cal 7) 91 = some (1, 0, q_m_X6_cellCount, 552, 553, 554, 73) := rfl
theorem c_7_94 : q_lk (q_cal 7) 94 = some (1, 2, q_m_X7_refusesAdd, 564, 566, 4, 72) := rfl
theorem c_7_101 : q_lk (q_cal 7) 101 = some (1, 2, q_m_X6_putRobot, 617, 618, 619, 73) := rfl
theorem c_7_105 : q_lk (q_cal 7) 105 = some (1, 1, q_m_X6_isCell, 568, 569, 570, 73) := rfl
theorem c_7_109 : q_lk (q_cal 7) 109 = some (1, 2, q_m_X7_refuse, 573, 575, 5, 72) := rfl
theorem c_7_115 : q_lk (q_cal 7) 115 = some (1, 1, q_m_X6_canEnter, 577, 578, 579, 73) := rfl
theorem c_7_118 : q_lk (q_cal 7) 118 = some (1, 2, q_m_X7_refusesRobotsCell, 582, 584, 6, 72) := rfl
theorem c_7_121 : q_lk (q_cal 7) 121 = some (1, 1, q_m_X7_refusesTakeOff, 632, 634, 7, 72) := rfl
theorem c_7_124 : q_lk (q_cal 7) 124 = some (1, 1, q_m_X6_dropRobot, 637, 638, 639, 73) := rfl
theorem c_7_128 : q_lk (q_cal 7) 128 = some (1, 1, q_m_X6_isRobot, 636, 591, 592, 73) := rfl
theorem c_7_140 : q_lk (q_cal 7) 140 = some (1, 4, q_m_X7_refusesOrder, 648, 650, 8, 72) := rfl
theorem c_7_144 : q_lk (q_cal 7) 144 = some (1, 4, q_m_X6_putOrder, 660, 661, 662, 73) := rfl
theorem c_7_148 : q_lk (q_cal 7) 148 = some (1, 1, q_m_X6_isCellOrNone, 652, 653, 654, 73) := rfl
theorem c_7_154 : q_lk (q_cal 7) 154 = some (1, 1, q_m_X7_refusesLine, 656, 658, 9, 72) := rfl
theorem c_7_161 : q_lk (q_cal 7) 161 = some (1, 2, q_m_X7_refusesAssign, 675, 677, 10, 72) := rfl
theorem c_7_168 : q_lk (q_cal 7) 168 = some (1, 0, q_m_X3_linesLeft, 692, 693, 694, 75) := rfl
theorem c_7_173 : q_lk (q_cal 7) 173 = some (1, 1, q_m_X6_isOrder, 679, 680, 681, 73) := rfl
theorem c_7_176 : q_lk (q_cal 7) 176 = some (1, 1, q_m_X6_stateOf, 683, 684, 685, 73) := rfl
theorem c_7_180 : q_lk (q_cal 7) 180 = some (1, 1, q_m_X7_refusesRelease, 703, 705, 11, 72) := rfl
theorem c_7_183 : q_lk (q_cal 7) 183 = some (1, 1, q_m_X6_freeRobot, 707, 708, 709, 73) := rfl
theorem c_7_186 : q_lk (q_cal 7) 186 = some (1, 1, q_m_X7_refusesClose, 718, 720, 12, 72) := rfl
theorem c_7_193 : q_lk (q_cal 7) 193 = some (1, 0, q_m_X6_closedCount, 722, 723, 724, 73) := rfl
theorem c_7_196 : q_lk (q_cal 7) 196 = some (1, 1, q_m_X7_refusesOpen, 733, 735, 13, 72) := rfl
theorem c_7_199 : q_lk (q_cal 7) 199 = some (1, 2, q_m_X7_refusesSet, 744, 746, 14, 72) := rfl
theorem c_7_211 : q_lk (q_cal 7) 211 = some (1, 2, q_m_X7_refusesGoal, 759, 761, 15, 72) := rfl
theorem c_7_214 : q_lk (q_cal 7) 214 = some (1, 2, q_m_X4_findFirst, 763, 764, 765, 80) := rfl
theorem c_7_217 : q_lk (q_cal 7) 217 = some (1, 2, q_m_X7_refusesFound, 829, 831, 25, 72) := rfl
theorem c_7_223 : q_lk (q_cal 7) 223 = some (1, 1, q_m_X6_stepCost, 837, 838, 839, 73) := rfl
theorem c_7_226 : q_lk (q_cal 7) 226 = some (1, 3, q_m_X5_follow, 845, 846, 847, 74) := rfl
theorem c_7_236 : q_lk (q_cal 7) 236 = some (1, 1, q_m_X4_stepsOfPath, 833, 834, 835, 80) := rfl
theorem c_7_242 : q_lk (q_cal 7) 242 = some (1, 1, q_m_X7_refusesCancel, 856, 858, 26, 72) := rfl
theorem c_7_245 : q_lk (q_cal 7) 245 = some (1, 1, q_m_X7_refusesPass, 867, 869, 27, 72) := rfl
theorem c_7_248 : q_lk (q_cal 7) 248 = some (1, 0, q_m_X6_tick, 871, 872, 873, 73) := rfl
theorem c_7_254 : q_lk (q_cal 7) 254 = some (1, 2, q_m_X6_robotThere, 948, 949, 950, 73) := rfl
theorem c_7_257 : q_lk (q_cal 7) 257 = some (1, 1, q_m_X6_enteredNeighbors, 953, 954, 955, 73) := rfl
theorem c_7_260 : q_lk (q_cal 7) 260 = some (0, 1, q_m_X7_signOf, 966, 967, 0, 72) := rfl
theorem c_7_264 : q_lk (q_cal 7) 264 = some (1, 2, q_m_X0_between, 978, 979, 980, 79) := rfl
theorem c_7_270 : q_lk (q_cal 7) 270 = some (1, 2, q_m_X0_betweenByTable, 1016, 1017, 1018, 79) := rfl
theorem c_7_273 : q_lk (q_cal 7) 273 = some (1, 1, q_m_X0_countFrom, 1048, 1049, 1050, 79) := rfl
theorem c_7_276 : q_lk (q_cal 7) 276 = some (1, 1, q_m_X0_farthestFrom, 1059, 1060, 1061, 79) := rfl
theorem c_7_279 : q_lk (q_cal 7) 279 = some (1, 0, q_m_X5_lastCell, 1070, 787, 788, 74) := rfl
theorem c_7_282 : q_lk (q_cal 7) 282 = some (1, 1, q_m_X6_isLoaded, 1071, 842, 843, 73) := rfl
theorem c_7_288 : q_lk (q_cal 7) 288 = some (1, 1, q_m_X5_cellAhead, 1079, 599, 600, 74) := rfl
theorem c_7_291 : q_lk (q_cal 7) 291 = some (1, 2, q_m_X4_findTickByTick, 1101, 1102, 1103, 80) := rfl
theorem c_7_303 : q_lk (q_cal 7) 303 = some (1, 1, q_m_X6_robotWith, 1120, 689, 690, 73) := rfl
theorem c_7_312 : q_lk (q_cal 7) 312 = some (1, 1, q_m_X6_ordersIn, 1135, 1136, 1137, 73) := rfl
theorem c_7_315 : q_lk (q_cal 7) 315 = some (1, 1, q_m_X6_waitingOrder, 1140, 1141, 1142, 73) := rfl
theorem c_7_318 : q_lk (q_cal 7) 318 = some (1, 1, q_m_X0_bestRobotFor, 1159, 1160, 1161, 79) := rfl
theorem c_7_321 : q_lk (q_cal 7) 321 = some (1, 1, q_m_X0_through, 1176, 1177, 1178, 79) := rfl
theorem c_7_328 : q_lk (q_cal 7) 328 = some (1, 0, q_m_X6_loadedCount, 1210, 1211, 1212, 73) := rfl
theorem c_7_331 : q_lk (q_cal 7) 331 = some (1, 0, q_m_X6_latenessSum, 1221, 1222, 1223, 73) := rfl
theorem c_7_343 : q_lk (q_cal 7) 343 = some (1, 0, q_m_X6_stepSum, 1239, 1240, 1241, 73) := rfl
theorem c_7_346 : q_lk (q_cal 7) 346 = some (1, 0, q_m_X6_pickedSum, 1243, 1244, 1245, 73) := rfl
theorem c_7_349 : q_lk (q_cal 7) 349 = some (1, 0, q_m_X6_batterySum, 1247, 1248, 1249, 73) := rfl
theorem c_7_355 : q_lk (q_cal 7) 355 = some (1, 1, q_m_X1_giveBack, 1258, 1259, 1260, 77) := rfl
theorem c_7_358 : q_lk (q_cal 7) 358 = some (1, 1, q_m_X6_copyFrom, 396, 397, 398, 73) := rfl
theorem c_7_361 : q_lk (q_cal 7) 361 = some (1, 2, q_m_X6_lowestRobotEverIn, 586, 587, 588, 73) := rfl
theorem c_8_67 : q_lk (q_cal 8) 67 = some (1, 0, q_m_X8_cells, 1348, 1350, 42, 81) := rfl
theorem c_8_71 : q_lk (q_cal 8) 71 = some (0, 3, q_m_X8_in, 1352, 1353, 0, 81) := rfl
theorem c_8_75 : q_lk (q_cal 8) 75 = some (0, 1, q_m_X8_at, 1375, 1376, 0, 81) := rfl
theorem c_8_79 : q_lk (q_cal 8) 79 = some (1, 2, q_m_X8_of, 1371, 1373, 47, 81) := rfl
theorem c_8_83 : q_lk (q_cal 8) 83 = some (1, 2, q_m_X8_cellOf, 1367, 1369, 46, 81) := rfl
theorem c_8_86 : q_lk (q_cal 8) 86 = some (1, 1, q_m_X8_isCell, 1344, 1346, 41, 81) := rfl
theorem c_8_90 : q_lk (q_cal 8) 90 = some (1, 2, q_m_X8_refuse, 1355, 1357, 43, 81) := rfl
theorem c_8_93 : q_lk (q_cal 8) 93 = some (1, 1, q_m_X8_canEnter, 1359, 1361, 44, 81) := rfl
theorem c_8_96 : q_lk (q_cal 8) 96 = some (1, 3, q_m_X8_willBe, 1363, 1365, 45, 81) := rfl
theorem c_8_100 : q_lk (q_cal 8) 100 = some (1, 0, q_m_X8_change, 1378, 1380, 48, 81) := rfl
theorem c_8_103 : q_lk (q_cal 8) 103 = some (1, 1, q_m_X8_isRobot, 1387, 1389, 49, 81) := rfl
theorem c_8_106 : q_lk (q_cal 8) 106 = some (0, 1, q_m_X8_order, 1391, 1392, 0, 81) := rfl
theorem c_8_109 : q_lk (q_cal 8) 109 = some (1, 2, q_m_X8_get, 1410, 1412, 52, 81) := rfl
theorem c_8_112 : q_lk (q_cal 8) 112 = some (1, 1, q_m_X8_isOrder, 1402, 1404, 50, 81) := rfl
theorem c_8_115 : q_lk (q_cal 8) 115 = some (1, 1, q_m_X8_stateOf, 1406, 1408, 51, 81) := rfl
theorem c_8_118 : q_lk (q_cal 8) 118 = some (1, 0, q_m_X8_closedCells, 1422, 1424, 53, 81) := rfl
theorem c_8_121 : q_lk (q_cal 8) 121 = some (0, 1, q_m_X8_mostOf, 1434, 1435, 0, 81) := rfl
theorem c_8_124 : q_lk (q_cal 8) 124 = some (1, 2, q_m_X8_beside, 1449, 1451, 56, 81) := rfl
theorem c_8_127 : q_lk (q_cal 8) 127 = some (1, 4, q_m_X8_mayGo, 1453, 1455, 57, 81) := rfl
theorem c_8_131 : q_lk (q_cal 8) 131 = some (1, 1, q_m_X8_findComing, 1445, 1447, 55, 81) := rfl
theorem c_8_135 : q_lk (q_cal 8) 135 = some (1, 3, q_m_X8_canEnd, 1457, 1459, 58, 81) := rfl
theorem c_8_138 : q_lk (q_cal 8) 138 = some (1, 3, q_m_X8_findGoing, 1469, 1471, 61, 81) := rfl
theorem c_8_142 : q_lk (q_cal 8) 142 = some (1, 2, q_m_X8_fewest, 1441, 1443, 54, 81) := rfl
theorem c_8_145 : q_lk (q_cal 8) 145 = some (1, 1, q_m_X8_isLoaded, 1461, 1463, 59, 81) := rfl
theorem c_8_148 : q_lk (q_cal 8) 148 = some (1, 3, q_m_X8_findPath, 1465, 1467, 60, 81) := rfl
theorem c_8_156 : q_lk (q_cal 8) 156 = some (1, 1, q_m_X8_ends, 1486, 1488, 63, 81) := rfl
theorem c_8_159 : q_lk (q_cal 8) 159 = some (1, 0, q_m_X8_tick, 1481, 1483, 62, 81) := rfl
theorem c_8_162 : q_lk (q_cal 8) 162 = some (1, 1, q_m_X8_findFar, 1498, 1500, 65, 81) := rfl
theorem c_8_165 : q_lk (q_cal 8) 165 = some (1, 2, q_m_X8_farOf, 1494, 1496, 64, 81) := rfl
theorem c_8_168 : q_lk (q_cal 8) 168 = some (1, 2, q_m_X8_robotIn, 1518, 1520, 66, 81) := rfl
theorem c_8_173 : q_lk (q_cal 8) 173 = some (1, 1, q_m_J0_charAt_5068e, 1527, 1528, 1529, 88) := rfl
theorem c_8_179 : q_lk (q_cal 8) 179 = some (1, 2, q_m_X8_arrival, 1587, 1580, 1581, 81) := rfl
theorem c_8_182 : q_lk (q_cal 8) 182 = some (1, 2, q_m_X8_isAhead, 1600, 1602, 67, 81) := rfl
theorem c_8_186 : q_lk (q_cal 8) 186 = some (1, 1, q_m_X8_overOrders, 1628, 1630, 68, 81) := rfl
theorem c_8_189 : q_lk (q_cal 8) 189 = some (1, 1, q_m_X8_overRobots, 1632, 1634, 69, 81) := rfl
theorem c_8_201 : q_lk (q_cal 8) 201 = some (1, 1, q_m_J0_indexOf_0f7a4, 1648, 1649, 1650, 88) := rfl
theorem c_8_204 : q_lk (q_cal 8) 204 = some (1, 0, q_m_X8_wrongPlace, 1644, 1646, 70, 81) := rfl
theorem c_9_7 : q_lk (q_cal 9) 7 = some (1, 1, q_m_X7_append, 414, 415, 416, 72) := rfl
theorem c_9_15 : q_lk (q_cal 9) 15 = some (1, 0, q_m_X7_layout, 499, 500, 501, 72) := rfl
theorem c_9_21 : q_lk (q_cal 9) 21 = some (1, 2, q_m_X7_add, 560, 561, 562, 72) := rfl
theorem c_9_27 : q_lk (q_cal 9) 27 = some (1, 1, q_m_X7_takeOff, 628, 629, 630, 72) := rfl
theorem c_9_31 : q_lk (q_cal 9) 31 = some (1, 4, q_m_X7_order, 644, 645, 646, 72) := rfl
theorem c_9_35 : q_lk (q_cal 9) 35 = some (1, 2, q_m_X7_assign, 671, 672, 673, 72) := rfl
theorem c_9_38 : q_lk (q_cal 9) 38 = some (1, 1, q_m_X7_release, 699, 700, 701, 72) := rfl
theorem c_9_41 : q_lk (q_cal 9) 41 = some (1, 1, q_m_X7_close, 714, 715, 716, 72) := rfl
theorem c_9_44 : q_lk (q_cal 9) 44 = some (1, 1, q_m_X7_open, 729, 730, 731, 72) := rfl
theorem c_9_47 : q_lk (q_cal 9) 47 = some (1, 2, q_m_X7_set, 740, 741, 742, 72) := rfl
theorem c_9_50 : q_lk (q_cal 9) 50 = some (1, 2, q_m_X7_plan, 755, 756, 757, 72) := rfl
theorem c_9_53 : q_lk (q_cal 9) 53 = some (1, 1, q_m_X7_cancel, 852, 853, 854, 72) := rfl
theorem c_9_56 : q_lk (q_cal 9) 56 = some (1, 1, q_m_X7_pass, 863, 864, 865, 72) := rfl
theorem c_9_59 : q_lk (q_cal 9) 59 = some (1, 2, q_m_X7_cell, 929, 930, 931, 72) := rfl
theorem c_9_64 : q_lk (q_cal 9) 64 = some (1, 1, q_m_X7_letter, 962, 963, 964, 72) := rfl
theorem c_9_68 : q_lk (q_cal 9) 68 = some (1, 2, q_m_X7_distance, 974, 975, 976, 72) := rfl
theorem c_9_73 : q_lk (q_cal 9) 73 = some (1, 2, q_m_X7_distanceAgain, 1012, 1013, 1014, 72) := rfl
theorem c_9_76 : q_lk (q_cal 9) 76 = some (1, 1, q_m_X7_reach, 1044, 1045, 1046, 72) := rfl
theorem c_9_79 : q_lk (q_cal 9) 79 = some (1, 1, q_m_X7_farthest, 1055, 1056, 1057, 72) := rfl
theorem c_9_82 : q_lk (q_cal 9) 82 = some (1, 2, q_m_X7_robotOf, 1066, 1067, 1068, 72) := rfl
theorem c_9_85 : q_lk (q_cal 9) 85 = some (1, 2, q_m_X7_planned, 1075, 1076, 1077, 72) := rfl
theorem c_9_88 : q_lk (q_cal 9) 88 = some (1, 2, q_m_X7_reserved, 1083, 1084, 1085, 72) := rfl
theorem c_9_91 : q_lk (q_cal 9) 91 = some (1, 2, q_m_X7_arrival, 1090, 1091, 1092, 72) := rfl
theorem c_9_94 : q_lk (q_cal 9) 94 = some (1, 2, q_m_X7_arrivalAgain, 1097, 1098, 1099, 72) := rfl
theorem c_9_97 : q_lk (q_cal 9) 97 = some (1, 2, q_m_X7_orderOf, 1116, 1117, 1118, 72) := rfl
theorem c_9_100 : q_lk (q_cal 9) 100 = some (1, 2, q_m_X7_line, 1124, 1125, 1126, 72) := rfl
theorem c_9_103 : q_lk (q_cal 9) 103 = some (1, 1, q_m_X7_waiting, 1131, 1132, 1133, 72) := rfl
theorem c_9_106 : q_lk (q_cal 9) 106 = some (1, 1, q_m_X7_suited, 1155, 1156, 1157, 72) := rfl
theorem c_9_109 : q_lk (q_cal 9) 109 = some (1, 1, q_m_X7_tour, 1172, 1173, 1174, 72) := rfl
theorem c_9_112 : q_lk (q_cal 9) 112 = some (1, 0, q_m_X7_loaded, 1201, 1202, 1203, 72) := rfl
theorem c_9_118 : q_lk (q_cal 9) 118 = some (1, 0, q_m_X7_lateness, 1217, 1218, 1219, 72) := rfl
theorem c_9_122 : q_lk (q_cal 9) 122 = some (1, 1, q_m_X7_reason, 1228, 1229, 1230, 72) := rfl
theorem c_9_126 : q_lk (q_cal 9) 126 = some (1, 1, q_m_X7_account, 1235, 1236, 1237, 72) := rfl
theorem c_9_129 : q_lk (q_cal 9) 129 = some (1, 0, q_m_X7_undo, 1254, 1255, 1256, 72) := rfl
theorem c_9_132 : q_lk (q_cal 9) 132 = some (1, 0, q_m_X7_restore, 1265, 1266, 1267, 72) := rfl
theorem c_9_135 : q_lk (q_cal 9) 135 = some (2, 0, q_m_X7_init, 101, 102, 0, 72) := rfl
theorem c_9_138 : q_lk (q_cal 9) 138 = some (2, 0, q_m_X8_init, 1271, 1272, 0, 81) := rfl
theorem c_9_139 : q_lk (q_cal 9) 139 = some (0, 3, q_m_L_append, 410, 411, 0, 71) := rfl
theorem c_9_144 : q_lk (q_cal 9) 144 = some (1, 1, q_m_X8_append, 1636, 1637, 1638, 81) := rfl
theorem c_9_145 : q_lk (q_cal 9) 145 = some (1, 0, q_m_X8_thrown, 1336, 1337, 1338, 81) := rfl
theorem c_9_148 : q_lk (q_cal 9) 148 = some (0, 2, q_m_L_layout, 495, 496, 0, 71) := rfl
theorem c_9_151 : q_lk (q_cal 9) 151 = some (1, 0, q_m_X8_layout, 1640, 1641, 1642, 81) := rfl
theorem c_9_152 : q_lk (q_cal 9) 152 = some (1, 0, q_m_X7_faultPosition, 388, 389, 390, 72) := rfl
theorem c_9_155 : q_lk (q_cal 9) 155 = some (1, 0, q_m_X8_faultPosition, 1710, 1711, 1712, 81) := rfl
theorem c_9_156 : q_lk (q_cal 9) 156 = some (0, 4, q_m_L_add, 556, 557, 0, 71) := rfl
theorem c_9_159 : q_lk (q_cal 9) 159 = some (1, 2, q_m_X8_add, 1340, 1341, 1342, 81) := rfl
theorem c_9_160 : q_lk (q_cal 9) 160 = some (0, 3, q_m_L_takeOff, 625, 626, 0, 71) := rfl
theorem c_9_163 : q_lk (q_cal 9) 163 = some (1, 1, q_m_X8_takeOff, 1383, 1384, 1385, 81) := rfl
theorem c_9_164 : q_lk (q_cal 9) 164 = some (0, 6, q_m_L_order, 641, 642, 0, 71) := rfl
theorem c_9_167 : q_lk (q_cal 9) 167 = some (1, 4, q_m_X8_order_, 1394, 1395, 1396, 81) := rfl
theorem c_9_168 : q_lk (q_cal 9) 168 = some (0, 4, q_m_L_assign, 668, 669, 0, 71) := rfl
theorem c_9_170 : q_lk (q_cal 9) 170 = some (1, 2, q_m_X8_assign, 1398, 1399, 1400, 81) := rfl
theorem c_9_171 : q_lk (q_cal 9) 171 = some (0, 3, q_m_L_release, 696, 697, 0, 71) := rfl
theorem c_9_173 : q_lk (q_cal 9) 173 = some (1, 1, q_m_X8_release, 1414, 1415, 1416, 81) := rfl
theorem c_9_174 : q_lk (q_cal 9) 174 = some (0, 3, q_m_L_close, 711, 712, 0, 71) := rfl
theorem c_9_176 : q_lk (q_cal 9) 176 = some (1, 1, q_m_X8_close, 1418, 1419, 1420, 81) := rfl
theorem c_9_177 : q_lk (q_cal 9) 177 = some (0, 3, q_m_L_open, 726, 727, 0, 71) := rfl
theorem c_9_179 : q_lk (q_cal 9) 179 = some (1, 1, q_m_X8_open, 1426, 1427, 1428, 81) := rfl
theorem c_9_180 : q_lk (q_cal 9) 180 = some (0, 4, q_m_L_set, 737, 738, 0, 71) := rfl
theorem c_9_182 : q_lk (q_cal 9) 182 = some (1, 2, q_m_X8_set, 1430, 1431, 1432, 81) := rfl
theorem c_9_183 : q_lk (q_cal 9) 183 = some (0, 4, q_m_L_plan, 752, 753, 0, 71) := rfl
theorem c_9_185 : q_lk (q_cal 9) 185 = some (1, 2, q_m_X8_plan, 1437, 1438, 1439, 81) := rfl
theorem c_9_186 : q_lk (q_cal 9) 186 = some (0, 3, q_m_L_cancel, 849, 850, 0, 71) := rfl
theorem c_9_188 : q_lk (q_cal 9) 188 = some (1, 1, q_m_X8_cancel, 1473, 1474, 1475, 81) := rfl
theorem c_9_189 : q_lk (q_cal 9) 189 = some (0, 3, q_m_L_pass, 860, 861, 0, 71) := rfl
theorem c_9_191 : q_lk (q_cal 9) 191 = some (1, 1, q_m_X8_pass, 1477, 1478, 1479, 81) := rfl
theorem c_9_192 : q_lk (q_cal 9) 192 = some (0, 4, q_m_L_cell, 893, 894, 0, 71) := rfl
theorem c_9_194 : q_lk (q_cal 9) 194 = some (1, 2, q_m_X8_cell, 1514, 1515, 1516, 81) := rfl
theorem c_9_195 : q_lk (q_cal 9) 195 = some (0, 3, q_m_L_letter, 959, 960, 0, 71) := rfl
theorem c_9_197 : q_lk (q_cal 9) 197 = some (1, 1, q_m_X8_letter, 1522, 1523, 1524, 81) := rfl
theorem c_9_198 : q_lk (q_cal 9) 198 = some (0, 4, q_m_L_distance, 970, 971, 0, 71) := rfl
theorem c_9_200 : q_lk (q_cal 9) 200 = some (1, 2, q_m_X8_distance, 1490, 1491, 1492, 81) := rfl
theorem c_9_201 : q_lk (q_cal 9) 201 = some (0, 4, q_m_L_distanceAgain, 1009, 1010, 0, 71) := rfl
theorem c_9_203 : q_lk (q_cal 9) 203 = some (1, 2, q_m_X8_distanceAgain, 1502, 1503, 1504, 81) := rfl
theorem c_9_204 : q_lk (q_cal 9) 204 = some (0, 3, q_m_L_reach, 1041, 1042, 0, 71) := rfl
theorem c_9_206 : q_lk (q_cal 9) 206 = some (1, 1, q_m_X8_reach, 1506, 1507, 1508, 81) := rfl
theorem c_9_207 : q_lk (q_cal 9) 207 = some (0, 3, q_m_L_farthest, 1052, 1053, 0, 71) := rfl
theorem c_9_209 : q_lk (q_cal 9) 209 = some (1, 1, q_m_X8_farthest, 1510, 1511, 1512, 81) := rfl
theorem c_9_210 : q_lk (q_cal 9) 210 = some (0, 4, q_m_L_robotOf, 1063, 1064, 0, 71) := rfl
theorem c_9_212 : q_lk (q_cal 9) 212 = some (1, 2, q_m_X8_robotOf, 1567, 1568, 1569, 81) := rfl
theorem c_9_213 : q_lk (q_cal 9) 213 = some (0, 4, q_m_L_planned, 1072, 1073, 0, 71) := rfl
theorem c_9_215 : q_lk (q_cal 9) 215 = some (1, 2, q_m_X8_planned, 1571, 1572, 1573, 81) := rfl
theorem c_9_216 : q_lk (q_cal 9) 216 = some (0, 4, q_m_L_reserved, 1080, 1081, 0, 71) := rfl
theorem c_9_218 : q_lk (q_cal 9) 218 = some (1, 2, q_m_X8_reserved, 1575, 1576, 1577, 81) := rfl
theorem c_9_219 : q_lk (q_cal 9) 219 = some (0, 4, q_m_L_arrival, 1087, 1088, 0, 71) := rfl
theorem c_9_221 : q_lk (q_cal 9) 221 = some (1, 2, q_m_X8_arrival, 1579, 1580, 1581, 81) := rfl
theorem c_9_222 : q_lk (q_cal 9) 222 = some (0, 4, q_m_L_arrivalAgain, 1094, 1095, 0, 71) := rfl
theorem c_9_224 : q_lk (q_cal 9) 224 = some (1, 2, q_m_X8_arrivalAgain, 1583, 1584, 1585, 81) := rfl
theorem c_9_225 : q_lk (q_cal 9) 225 = some (0, 4, q_m_L_orderOf, 1113, 1114, 0, 71) := rfl
theorem c_9_227 : q_lk (q_cal 9) 227 = some (1, 2, q_m_X8_orderOf, 1588, 1589, 1590, 81) := rfl
theorem c_9_228 : q_lk (q_cal 9) 228 = some (0, 4, q_m_L_line, 1121, 1122, 0, 71) := rfl
theorem c_9_230 : q_lk (q_cal 9) 230 = some (1, 2, q_m_X8_line, 1592, 1593, 1594, 81) := rfl
theorem c_9_231 : q_lk (q_cal 9) 231 = some (0, 3, q_m_L_waiting, 1128, 1129, 0, 71) := rfl
theorem c_9_233 : q_lk (q_cal 9) 233 = some (1, 1, q_m_X8_waiting, 1596, 1597, 1598, 81) := rfl
theorem c_9_234 : q_lk (q_cal 9) 234 = some (0, 3, q_m_L_suited, 1152, 1153, 0, 71) := rfl
theorem c_9_236 : q_lk (q_cal 9) 236 = some (1, 1, q_m_X8_suited, 1604, 1605, 1606, 81) := rfl
theorem c_9_237 : q_lk (q_cal 9) 237 = some (0, 3, q_m_L_tour, 1169, 1170, 0, 71) := rfl
theorem c_9_239 : q_lk (q_cal 9) 239 = some (1, 1, q_m_X8_tour, 1608, 1609, 1610, 81) := rfl
theorem c_9_240 : q_lk (q_cal 9) 240 = some (0, 2, q_m_L_loaded, 1184, 1185, 0, 71) := rfl
theorem c_9_243 : q_lk (q_cal 9) 243 = some (1, 0, q_m_X8_loaded, 1612, 1613, 1614, 81) := rfl
theorem c_9_244 : q_lk (q_cal 9) 244 = some (0, 2, q_m_L_lateness, 1214, 1215, 0, 71) := rfl
theorem c_9_246 : q_lk (q_cal 9) 246 = some (1, 0, q_m_X8_lateness, 1616, 1617, 1618, 81) := rfl
theorem c_9_247 : q_lk (q_cal 9) 247 = some (0, 3, q_m_L_reason, 1225, 1226, 0, 71) := rfl
theorem c_9_250 : q_lk (q_cal 9) 250 = some (1, 1, q_m_X8_reason, 1620, 1621, 1622, 81) := rfl
theorem c_9_251 : q_lk (q_cal 9) 251 = some (0, 3, q_m_L_account, 1232, 1233, 0, 71) := rfl
theorem c_9_253 : q_lk (q_cal 9) 253 = some (1, 1, q_m_X8_account, 1624, 1625, 1626, 81) := rfl
theorem c_9_254 : q_lk (q_cal 9) 254 = some (0, 2, q_m_L_undo, 1251, 1252, 0, 71) := rfl
theorem c_9_256 : q_lk (q_cal 9) 256 = some (1, 0, q_m_X8_undo, 1714, 1715, 1716, 81) := rfl
theorem c_9_257 : q_lk (q_cal 9) 257 = some (1, 0, q_m_X7_save, 392, 393, 394, 72) := rfl
theorem c_9_260 : q_lk (q_cal 9) 260 = some (1, 0, q_m_X8_save, 1718, 1719, 1720, 81) := rfl
theorem c_9_261 : q_lk (q_cal 9) 261 = some (0, 2, q_m_L_restore, 1262, 1263, 0, 71) := rfl
theorem c_9_263 : q_lk (q_cal 9) 263 = some (1, 0, q_m_X8_restore, 1722, 1723, 1724, 81) := rfl
theorem c_12_335 : q_lk (q_cal 12) 335 = some (1, 0, q_m_J0_coder_7d493, 1660, 1661, 1662, 88) := rfl
theorem c_12_492 : q_lk (q_cal 12) 492 = some (1, 0, q_m_J0_isLatin1_aae02, 1531, 1532, 1533, 88) := rfl
theorem c_12_495 : q_lk (q_cal 12) 495 = some (0, 2, q_m_J1_charAt_3b067, 1537, 1538, 0, 89) := rfl
theorem c_12_505 : q_lk (q_cal 12) 505 = some (1, 0, q_m_J0_length_8abf5, 1656, 1657, 1658, 88) := rfl
theorem c_12_633 : q_lk (q_cal 12) 633 = some (1, 2, q_m_J0_indexOf_7cf53, 1652, 1653, 1654, 88) := rfl
theorem c_12_637 : q_lk (q_cal 12) 637 = some (0, 4, q_m_J1_indexOf_4cfef, 1664, 1665, 0, 89) := rfl
theorem c_12_1059 : q_lk (q_cal 12) 1059 = some (0, 3, q_m_J3_checkIndex_8e157, 1545, 1546, 0, 91) := rfl
theorem c_13_9 : q_lk (q_cal 13) 9 = some (0, 2, q_m_J0_checkIndex_df160, 1540, 1541, 0, 88) := rfl
theorem c_13_88 : q_lk (q_cal 13) 88 = some (0, 1, q_m_J1_canEncode_9a6ad, 1667, 1668, 0, 89) := rfl
theorem c_13_95 : q_lk (q_cal 13) 95 = some (0, 4, q_m_J1_indexOfChar_4cfef, 1672, 1673, 0, 89) := rfl
