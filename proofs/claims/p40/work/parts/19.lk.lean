/-! lookups, one by one (printed by program) -/
theorem f_0_9 : q_lk (q_fl 0) 9 = some (0, 0, 268) := rfl
theorem f_0_15 : q_lk (q_fl 0) 15 = some (0, 1, 269) := rfl
theorem f_0_19 : q_lk (q_fl 0) 19 = some (0, 2, 270) := rfl
theorem f_0_24 : q_lk (q_fl 0) 24 = some (0, 3, 271) := rfl
theorem f_0_27 : q_lk (q_fl 0) 27 = some (0, 4, 272) := rfl
theorem f_0_31 : q_lk (q_fl 0) 31 = some (0, 5, 273) := rfl
theorem f_0_64 : q_lk (q_fl 0) 64 = some (6, 7, 187) := rfl
theorem f_0_68 : q_lk (q_fl 0) 68 = some (5, 2, 105) := rfl
theorem f_0_74 : q_lk (q_fl 0) 74 = some (5, 0, 97) := rfl
theorem f_0_84 : q_lk (q_fl 0) 84 = some (5, 1, 101) := rfl
theorem f_0_108 : q_lk (q_fl 0) 108 = some (0, 6, 274) := rfl
theorem f_0_111 : q_lk (q_fl 0) 111 = some (6, 0, 170) := rfl
theorem f_0_114 : q_lk (q_fl 0) 114 = some (0, 7, 275) := rfl
theorem f_0_117 : q_lk (q_fl 0) 117 = some (6, 1, 173) := rfl
theorem f_0_120 : q_lk (q_fl 0) 120 = some (0, 8, 276) := rfl
theorem f_1_11 : q_lk (q_fl 1) 11 = some (1, 0, 224) := rfl
theorem f_1_18 : q_lk (q_fl 1) 18 = some (1, 1, 225) := rfl
theorem f_1_26 : q_lk (q_fl 1) 26 = some (1, 2, 226) := rfl
theorem f_2_9 : q_lk (q_fl 2) 9 = some (2, 0, 241) := rfl
theorem f_2_15 : q_lk (q_fl 2) 15 = some (2, 1, 243) := rfl
theorem f_2_23 : q_lk (q_fl 2) 23 = some (2, 2, 247) := rfl
theorem f_2_26 : q_lk (q_fl 2) 26 = some (2, 3, 249) := rfl
theorem f_3_9 : q_lk (q_fl 3) 9 = some (3, 4, 151) := rfl
theorem f_3_15 : q_lk (q_fl 3) 15 = some (3, 3, 148) := rfl
theorem f_3_19 : q_lk (q_fl 3) 19 = some (3, 0, 140) := rfl
theorem f_3_22 : q_lk (q_fl 3) 22 = some (3, 1, 143) := rfl
theorem f_3_25 : q_lk (q_fl 3) 25 = some (3, 2, 145) := rfl
theorem f_4_9 : q_lk (q_fl 4) 9 = some (4, 0, 303) := rfl
theorem f_4_15 : q_lk (q_fl 4) 15 = some (4, 1, 304) := rfl
theorem f_4_19 : q_lk (q_fl 4) 19 = some (4, 2, 305) := rfl
theorem f_4_22 : q_lk (q_fl 4) 22 = some (4, 3, 306) := rfl
theorem f_4_26 : q_lk (q_fl 4) 26 = some (4, 4, 307) := rfl
theorem f_4_43 : q_lk (q_fl 4) 43 = some (6, 7, 186) := rfl
theorem f_4_49 : q_lk (q_fl 4) 49 = some (4, 5, 309) := rfl
theorem f_4_53 : q_lk (q_fl 4) 53 = some (5, 0, 96) := rfl
theorem f_4_73 : q_lk (q_fl 4) 73 = some (4, 6, 310) := rfl
theorem f_4_94 : q_lk (q_fl 4) 94 = some (4, 7, 311) := rfl
theorem f_4_116 : q_lk (q_fl 4) 116 = some (6, 9, 192) := rfl
theorem f_5_9 : q_lk (q_fl 5) 9 = some (5, 6, 115) := rfl
theorem f_5_15 : q_lk (q_fl 5) 15 = some (5, 2, 104) := rfl
theorem f_5_19 : q_lk (q_fl 5) 19 = some (5, 0, 95) := rfl
theorem f_5_22 : q_lk (q_fl 5) 22 = some (5, 1, 100) := rfl
theorem f_5_25 : q_lk (q_fl 5) 25 = some (5, 3, 108) := rfl
theorem f_5_28 : q_lk (q_fl 5) 28 = some (5, 4, 111) := rfl
theorem f_5_31 : q_lk (q_fl 5) 31 = some (5, 5, 114) := rfl
theorem f_6_9 : q_lk (q_fl 6) 9 = some (6, 0, 169) := rfl
theorem f_6_15 : q_lk (q_fl 6) 15 = some (6, 1, 172) := rfl
theorem f_6_18 : q_lk (q_fl 6) 18 = some (6, 5, 181) := rfl
theorem f_6_22 : q_lk (q_fl 6) 22 = some (6, 6, 183) := rfl
theorem f_6_28 : q_lk (q_fl 6) 28 = some (6, 7, 185) := rfl
theorem f_6_35 : q_lk (q_fl 6) 35 = some (6, 8, 189) := rfl
theorem f_6_40 : q_lk (q_fl 6) 40 = some (6, 9, 191) := rfl
theorem f_6_52 : q_lk (q_fl 6) 52 = some (6, 2, 175) := rfl
theorem f_6_55 : q_lk (q_fl 6) 55 = some (6, 3, 177) := rfl
theorem f_6_58 : q_lk (q_fl 6) 58 = some (6, 4, 179) := rfl
theorem f_6_68 : q_lk (q_fl 6) 68 = some (2, 2, 246) := rfl
theorem f_6_71 : q_lk (q_fl 6) 71 = some (2, 3, 248) := rfl
theorem f_6_72 : q_lk (q_fl 6) 72 = some (2, 1, 245) := rfl
theorem f_6_75 : q_lk (q_fl 6) 75 = some (2, 0, 242) := rfl
theorem f_6_112 : q_lk (q_fl 6) 112 = some (5, 2, 107) := rfl
theorem f_6_118 : q_lk (q_fl 6) 118 = some (3, 2, 146) := rfl
theorem f_6_127 : q_lk (q_fl 6) 127 = some (3, 3, 149) := rfl
theorem f_6_143 : q_lk (q_fl 6) 143 = some (3, 0, 141) := rfl
theorem f_6_152 : q_lk (q_fl 6) 152 = some (5, 3, 109) := rfl
theorem f_6_155 : q_lk (q_fl 6) 155 = some (5, 1, 103) := rfl
theorem f_6_158 : q_lk (q_fl 6) 158 = some (5, 4, 113) := rfl
theorem f_6_168 : q_lk (q_fl 6) 168 = some (5, 0, 99) := rfl
theorem f_7_12 : q_lk (q_fl 7) 12 = some (7, 0, 329) := rfl
theorem f_7_16 : q_lk (q_fl 7) 16 = some (7, 1, 330) := rfl
theorem f_7_22 : q_lk (q_fl 7) 22 = some (7, 2, 331) := rfl
theorem f_7_29 : q_lk (q_fl 7) 29 = some (7, 3, 332) := rfl
theorem f_7_38 : q_lk (q_fl 7) 38 = some (7, 4, 333) := rfl
theorem f_7_45 : q_lk (q_fl 7) 45 = some (7, 5, 334) := rfl
theorem f_7_49 : q_lk (q_fl 7) 49 = some (7, 6, 335) := rfl
theorem f_7_53 : q_lk (q_fl 7) 53 = some (7, 7, 336) := rfl
theorem f_7_57 : q_lk (q_fl 7) 57 = some (7, 8, 337) := rfl
theorem f_7_60 : q_lk (q_fl 7) 60 = some (7, 9, 338) := rfl
theorem f_7_74 : q_lk (q_fl 7) 74 = some (2, 1, 244) := rfl
theorem f_7_112 : q_lk (q_fl 7) 112 = some (6, 3, 178) := rfl
theorem f_7_131 : q_lk (q_fl 7) 131 = some (6, 7, 188) := rfl
theorem f_7_135 : q_lk (q_fl 7) 135 = some (5, 2, 106) := rfl
theorem f_7_151 : q_lk (q_fl 7) 151 = some (6, 4, 180) := rfl
theorem f_7_157 : q_lk (q_fl 7) 157 = some (6, 5, 182) := rfl
theorem f_7_164 : q_lk (q_fl 7) 164 = some (6, 8, 190) := rfl
theorem f_7_189 : q_lk (q_fl 7) 189 = some (6, 6, 184) := rfl
theorem f_7_202 : q_lk (q_fl 7) 202 = some (6, 9, 193) := rfl
theorem f_7_220 : q_lk (q_fl 7) 220 = some (4, 4, 308) := rfl
theorem f_7_230 : q_lk (q_fl 7) 230 = some (5, 4, 112) := rfl
theorem f_7_233 : q_lk (q_fl 7) 233 = some (5, 0, 98) := rfl
theorem f_7_239 : q_lk (q_fl 7) 239 = some (5, 1, 102) := rfl
theorem f_7_285 : q_lk (q_fl 7) 285 = some (5, 3, 110) := rfl
theorem f_7_294 : q_lk (q_fl 7) 294 = some (3, 0, 142) := rfl
theorem f_7_297 : q_lk (q_fl 7) 297 = some (3, 1, 144) := rfl
theorem f_7_300 : q_lk (q_fl 7) 300 = some (3, 2, 147) := rfl
theorem f_7_306 : q_lk (q_fl 7) 306 = some (3, 3, 150) := rfl
theorem f_7_309 : q_lk (q_fl 7) 309 = some (3, 4, 152) := rfl
theorem f_7_334 : q_lk (q_fl 7) 334 = some (6, 0, 171) := rfl
theorem f_7_337 : q_lk (q_fl 7) 337 = some (6, 1, 174) := rfl
theorem f_7_340 : q_lk (q_fl 7) 340 = some (6, 2, 176) := rfl
theorem f_7_352 : q_lk (q_fl 7) 352 = some (1, 2, 227) := rfl
theorem f_12_9 : q_lk (q_fl 12) 9 = some (9, 0, 669) := rfl
theorem f_12_15 : q_lk (q_fl 12) 15 = some (9, 1, 670) := rfl
theorem f_12_1048 : q_lk (q_fl 12) 1048 = some (8, 2, 385) := rfl
theorem f_15_15 : q_lk (q_fl 15) 15 = some (8, 0, 383) := rfl
theorem f_15_22 : q_lk (q_fl 15) 22 = some (8, 1, 384) := rfl
theorem f_15_79 : q_lk (q_fl 15) 79 = some (8, 3, 386) := rfl
theorem c_0_34 : q_lk (q_cal 0) 34 = some (1, 1, q_m_X0_measureFrom, 1199, 1201, 24, 48) := rfl
theorem c_0_38 : q_lk (q_cal 0) 38 = some (1, 1, q_m_X0_stepsTo, 1207, 1209, 25, 48) := rfl
theorem c_0_42 : q_lk (q_cal 0) 42 = some (1, 1, q_m_X6_isCell, 1204, 872, 873, 42) := rfl
theorem c_0_48 : q_lk (q_cal 0) 48 = some (0, 2, q_m_J7_fill_53178, 1203, 1044, 0, 56) := rfl
theorem c_0_54 : q_lk (q_cal 0) 54 = some (1, 2, q_m_X6_neighbor, 1205, 1047, 1048, 42) := rfl
theorem c_0_58 : q_lk (q_cal 0) 58 = some (1, 1, q_m_X6_canEnter, 1206, 904, 905, 42) := rfl
theorem c_0_61 : q_lk (q_cal 0) 61 = some (1, 1, q_m_X6_isRobot, 1340, 864, 865, 42) := rfl
theorem c_0_77 : q_lk (q_cal 0) 77 = some (1, 2, q_m_X0_between, 1341, 1196, 1197, 48) := rfl
theorem c_0_80 : q_lk (q_cal 0) 80 = some (1, 4, q_m_X0_isBetter, 1342, 1344, 34, 48) := rfl
theorem c_0_101 : q_lk (q_cal 0) 101 = some (1, 0, q_m_X0_renewTable, 1231, 1233, 26, 48) := rfl
theorem c_0_104 : q_lk (q_cal 0) 104 = some (1, 0, q_m_X0_openCells, 1235, 1237, 27, 48) := rfl
theorem c_0_124 : q_lk (q_cal 0) 124 = some (1, 0, q_m_X0_fillTable, 1239, 1241, 28, 48) := rfl
theorem c_0_127 : q_lk (q_cal 0) 127 = some (1, 1, q_m_X0_nearOfNeighbors, 1243, 1245, 29, 48) := rfl
theorem c_0_133 : q_lk (q_cal 0) 133 = some (0, 3, q_m_X0_noteRound, 1248, 1249, 0, 48) := rfl
theorem c_1_17 : q_lk (q_cal 1) 17 = some (2, 0, q_m_X6_init, 223, 85, 0, 42) := rfl
theorem c_1_22 : q_lk (q_cal 1) 22 = some (1, 1, q_m_X6_copyFrom, 784, 785, 786, 42) := rfl
theorem c_2_19 : q_lk (q_cal 2) 19 = some (1, 0, q_m_X2_isFull, 745, 717, 718, 47) := rfl
theorem c_2_29 : q_lk (q_cal 2) 29 = some (1, 1, q_m_X2_canEndRow, 758, 760, 1, 47) := rfl
theorem c_2_33 : q_lk (q_cal 2) 33 = some (1, 1, q_m_X2_endRow, 762, 764, 2, 47) := rfl
theorem c_2_37 : q_lk (q_cal 2) 37 = some (0, 1, q_m_X2_kindOf, 766, 767, 0, 47) := rfl
theorem c_2_41 : q_lk (q_cal 2) 41 = some (1, 1, q_m_X2_canGrowRow, 771, 773, 3, 47) := rfl
theorem c_4_29 : q_lk (q_cal 4) 29 = some (1, 2, q_m_X4_prepare, 1014, 1016, 12, 49) := rfl
theorem c_4_33 : q_lk (q_cal 4) 33 = some (0, 2, q_m_J7_fill_53178, 1043, 1044, 0, 56) := rfl
theorem c_4_39 : q_lk (q_cal 4) 39 = some (1, 0, q_m_X4_horizon, 1038, 1040, 14, 49) := rfl
theorem c_4_58 : q_lk (q_cal 4) 58 = some (1, 2, q_m_X6_neighbor, 1046, 1047, 1048, 42) := rfl
theorem c_4_62 : q_lk (q_cal 4) 62 = some (1, 3, q_m_X4_canStep, 1054, 1056, 16, 49) := rfl
theorem c_4_66 : q_lk (q_cal 4) 66 = some (1, 2, q_m_X4_canEndAt, 1066, 1068, 19, 49) := rfl
theorem c_4_69 : q_lk (q_cal 4) 69 = some (1, 1, q_m_X4_tracePath, 1070, 1072, 20, 49) := rfl
theorem c_4_76 : q_lk (q_cal 4) 76 = some (1, 2, q_m_X4_cellsAfter, 1290, 1292, 30, 49) := rfl
theorem c_4_80 : q_lk (q_cal 4) 80 = some (1, 1, q_m_X6_isCell, 1019, 872, 873, 42) := rfl
theorem c_4_84 : q_lk (q_cal 4) 84 = some (1, 3, q_m_X4_canComeTo, 1294, 1296, 31, 49) := rfl
theorem c_4_88 : q_lk (q_cal 4) 88 = some (1, 1, q_m_X6_isRobot, 1018, 864, 865, 42) := rfl
theorem c_4_91 : q_lk (q_cal 4) 91 = some (1, 1, q_m_X6_canEnter, 1020, 904, 905, 42) := rfl
theorem c_4_97 : q_lk (q_cal 4) 97 = some (0, 2, q_m_J7_fill_d0a16, 1021, 1022, 0, 56) := rfl
theorem c_4_100 : q_lk (q_cal 4) 100 = some (1, 1, q_m_X4_noteOther, 1024, 1026, 13, 49) := rfl
theorem c_4_104 : q_lk (q_cal 4) 104 = some (1, 1, q_m_X5_cellAhead, 1028, 920, 921, 43) := rfl
theorem c_4_108 : q_lk (q_cal 4) 108 = some (1, 1, q_m_X5_lastTickIn, 1029, 1030, 1031, 43) := rfl
theorem c_4_122 : q_lk (q_cal 4) 122 = some (1, 2, q_m_X4_isTaken, 1058, 1060, 17, 49) := rfl
theorem c_4_125 : q_lk (q_cal 4) 125 = some (1, 3, q_m_X4_changesPlaces, 1062, 1064, 18, 49) := rfl
theorem c_5_40 : q_lk (q_cal 5) 40 = some (1, 1, q_m_X5_cellAhead, 919, 920, 921, 43) := rfl
theorem c_5_44 : q_lk (q_cal 5) 44 = some (1, 0, q_m_X5_lastCell, 1033, 1034, 1035, 43) := rfl
theorem c_6_32 : q_lk (q_cal 6) 32 = some (2, 0, q_m_X5_init, 91, 92, 0, 43) := rfl
theorem c_6_39 : q_lk (q_cal 6) 39 = some (2, 0, q_m_X3_init, 136, 137, 0, 44) := rfl
theorem c_6_61 : q_lk (q_cal 6) 61 = some (1, 1, q_m_X5_copyFrom, 788, 789, 790, 43) := rfl
theorem c_6_65 : q_lk (q_cal 6) 65 = some (1, 1, q_m_X3_copyFrom, 793, 794, 795, 44) := rfl
theorem c_6_79 : q_lk (q_cal 6) 79 = some (0, 1, q_m_X2_kindOf, 803, 767, 0, 47) := rfl
theorem c_6_83 : q_lk (q_cal 6) 83 = some (1, 0, q_m_X6_cellCount, 875, 805, 806, 42) := rfl
theorem c_6_87 : q_lk (q_cal 6) 87 = some (1, 1, q_m_X6_isCell, 871, 872, 873, 42) := rfl
theorem c_6_91 : q_lk (q_cal 6) 91 = some (1, 1, q_m_X6_columnOf, 1050, 1052, 15, 42) := rfl
theorem c_6_95 : q_lk (q_cal 6) 95 = some (1, 2, q_m_X6_neighbor, 1163, 1047, 1048, 42) := rfl
theorem c_6_99 : q_lk (q_cal 6) 99 = some (1, 1, q_m_X6_canEnter, 1164, 904, 905, 42) := rfl
theorem c_6_102 : q_lk (q_cal 6) 102 = some (1, 2, q_m_X5_begin, 927, 928, 929, 43) := rfl
theorem c_6_106 : q_lk (q_cal 6) 106 = some (1, 1, q_m_X6_isRobot, 863, 864, 865, 42) := rfl
theorem c_6_109 : q_lk (q_cal 6) 109 = some (1, 4, q_m_X3_begin, 977, 978, 979, 44) := rfl
theorem c_6_115 : q_lk (q_cal 6) 115 = some (1, 1, q_m_X6_isOrder, 851, 852, 853, 42) := rfl
theorem c_6_121 : q_lk (q_cal 6) 121 = some (1, 1, q_m_X5_cellAhead, 1158, 920, 921, 43) := rfl
theorem c_6_124 : q_lk (q_cal 6) 124 = some (1, 1, q_m_X5_isEverIn, 915, 916, 917, 43) := rfl
theorem c_6_130 : q_lk (q_cal 6) 130 = some (1, 1, q_m_X6_robotWith, 859, 860, 861, 42) := rfl
theorem c_6_133 : q_lk (q_cal 6) 133 = some (1, 1, q_m_X6_stateOf, 855, 856, 857, 42) := rfl
theorem c_6_136 : q_lk (q_cal 6) 136 = some (1, 1, q_m_X6_waitingBefore, 1312, 1314, 32, 42) := rfl
theorem c_6_139 : q_lk (q_cal 6) 139 = some (1, 2, q_m_X6_isRankedBefore, 1316, 1318, 33, 42) := rfl
theorem c_6_146 : q_lk (q_cal 6) 146 = some (1, 0, q_m_X3_linesLeft, 1121, 996, 997, 44) := rfl
theorem c_6_149 : q_lk (q_cal 6) 149 = some (1, 1, q_m_X6_isLoaded, 1086, 1087, 1088, 42) := rfl
theorem c_6_161 : q_lk (q_cal 6) 161 = some (1, 0, q_m_X5_goOn, 1109, 1110, 1111, 43) := rfl
theorem c_6_164 : q_lk (q_cal 6) 164 = some (1, 1, q_m_X6_endPlan, 1113, 1115, 23, 42) := rfl
theorem c_6_171 : q_lk (q_cal 6) 171 = some (1, 1, q_m_X5_charge, 1122, 1123, 1124, 43) := rfl
theorem c_6_175 : q_lk (q_cal 6) 175 = some (1, 1, q_m_X3_isNextLine, 1117, 1118, 1119, 44) := rfl
theorem c_7_11 : q_lk (q_cal 7) 11 = some (2, 0, q_m_X6_init, 84, 85, 0, 42) := rfl
theorem c_7_21 : q_lk (q_cal 7) 21 = some (2, 0, q_m_X1_init, 217, 218, 0, 46) := rfl
theorem c_7_28 : q_lk (q_cal 7) 28 = some (2, 0, q_m_X2_init, 237, 238, 0, 47) := rfl
theorem c_7_35 : q_lk (q_cal 7) 35 = some (2, 1, q_m_X0_init, 262, 263, 0, 48) := rfl
theorem c_7_44 : q_lk (q_cal 7) 44 = some (2, 1, q_m_X4_init, 299, 300, 0, 49) := rfl
theorem c_7_63 : q_lk (q_cal 7) 63 = some (1, 0, q_m_X2_isFull, 716, 717, 718, 47) := rfl
theorem c_7_70 : q_lk (q_cal 7) 70 = some (1, 1, q_m_X2_take, 741, 742, 743, 47) := rfl
theorem c_7_77 : q_lk (q_cal 7) 77 = some (1, 0, q_m_X2_findFault, 754, 755, 756, 47) := rfl
theorem c_7_84 : q_lk (q_cal 7) 84 = some (1, 1, q_m_X1_keep, 780, 781, 782, 46) := rfl
theorem c_7_87 : q_lk (q_cal 7) 87 = some (1, 1, q_m_X6_rebuild, 799, 800, 801, 42) := rfl
theorem c_7_91 : q_lk (q_cal 7) 91 = some (1, 0, q_m_X6_cellCount, 804, 805, 806, 42) := rfl
theorem c_7_94 : q_lk (q_cal 7) 94 = some (1, 2, q_m_X7_refusesAdd, 898, 900, 6, 41) := rfl
theorem c_7_101 : q_lk (q_cal 7) 101 = some (1, 2, q_m_X6_putRobot, 923, 924, 925, 42) := rfl
theorem c_7_105 : q_lk (q_cal 7) 105 = some (1, 1, q_m_X6_isCell, 902, 872, 873, 42) := rfl
theorem c_7_109 : q_lk (q_cal 7) 109 = some (1, 2, q_m_X7_refuse, 820, 822, 5, 41) := rfl
theorem c_7_115 : q_lk (q_cal 7) 115 = some (1, 1, q_m_X6_canEnter, 903, 904, 905, 42) := rfl
theorem c_7_118 : q_lk (q_cal 7) 118 = some (1, 2, q_m_X7_refusesRobotsCell, 907, 909, 7, 41) := rfl
theorem c_7_121 : q_lk (q_cal 7) 121 = some (1, 1, q_m_X7_refusesTakeOff, 1426, 1428, 35, 41) := rfl
theorem c_7_124 : q_lk (q_cal 7) 124 = some (1, 1, q_m_X6_dropRobot, 1430, 1431, 1432, 42) := rfl
theorem c_7_128 : q_lk (q_cal 7) 128 = some (1, 1, q_m_X6_isRobot, 992, 864, 865, 42) := rfl
theorem c_7_140 : q_lk (q_cal 7) 140 = some (1, 4, q_m_X7_refusesOrder, 961, 963, 8, 41) := rfl
theorem c_7_144 : q_lk (q_cal 7) 144 = some (1, 4, q_m_X6_putOrder, 973, 974, 975, 42) := rfl
theorem c_7_148 : q_lk (q_cal 7) 148 = some (1, 1, q_m_X6_isCellOrNone, 965, 966, 967, 42) := rfl
theorem c_7_154 : q_lk (q_cal 7) 154 = some (1, 1, q_m_X7_refusesLine, 969, 971, 9, 41) := rfl
theorem c_7_161 : q_lk (q_cal 7) 161 = some (1, 2, q_m_X7_refusesAssign, 988, 990, 10, 41) := rfl
theorem c_7_168 : q_lk (q_cal 7) 168 = some (1, 0, q_m_X3_linesLeft, 995, 996, 997, 44) := rfl
theorem c_7_173 : q_lk (q_cal 7) 173 = some (1, 1, q_m_X6_isOrder, 993, 852, 853, 42) := rfl
theorem c_7_176 : q_lk (q_cal 7) 176 = some (1, 1, q_m_X6_stateOf, 994, 856, 857, 42) := rfl
theorem c_7_180 : q_lk (q_cal 7) 180 = some (1, 1, q_m_X7_refusesRelease, 1441, 1443, 36, 41) := rfl
theorem c_7_183 : q_lk (q_cal 7) 183 = some (1, 1, q_m_X6_freeRobot, 1445, 1446, 1447, 42) := rfl
theorem c_7_186 : q_lk (q_cal 7) 186 = some (1, 1, q_m_X7_refusesClose, 1456, 1458, 37, 41) := rfl
theorem c_7_193 : q_lk (q_cal 7) 193 = some (1, 0, q_m_X6_closedCount, 867, 868, 869, 42) := rfl
theorem c_7_196 : q_lk (q_cal 7) 196 = some (1, 1, q_m_X7_refusesOpen, 1467, 1469, 38, 41) := rfl
theorem c_7_199 : q_lk (q_cal 7) 199 = some (1, 2, q_m_X7_refusesSet, 816, 818, 4, 41) := rfl
theorem c_7_211 : q_lk (q_cal 7) 211 = some (1, 2, q_m_X7_refusesGoal, 1006, 1008, 11, 41) := rfl
theorem c_7_214 : q_lk (q_cal 7) 214 = some (1, 2, q_m_X4_findFirst, 1010, 1011, 1012, 49) := rfl
theorem c_7_217 : q_lk (q_cal 7) 217 = some (1, 2, q_m_X7_refusesFound, 1074, 1076, 21, 41) := rfl
theorem c_7_223 : q_lk (q_cal 7) 223 = some (1, 1, q_m_X6_stepCost, 1082, 1083, 1084, 42) := rfl
theorem c_7_226 : q_lk (q_cal 7) 226 = some (1, 3, q_m_X5_follow, 1090, 1091, 1092, 43) := rfl
theorem c_7_236 : q_lk (q_cal 7) 236 = some (1, 1, q_m_X4_stepsOfPath, 1078, 1079, 1080, 49) := rfl
theorem c_7_242 : q_lk (q_cal 7) 242 = some (1, 1, q_m_X7_refusesCancel, 1478, 1480, 39, 41) := rfl
theorem c_7_245 : q_lk (q_cal 7) 245 = some (1, 1, q_m_X7_refusesPass, 1101, 1103, 22, 41) := rfl
theorem c_7_248 : q_lk (q_cal 7) 248 = some (1, 0, q_m_X6_tick, 1105, 1106, 1107, 42) := rfl
theorem c_7_254 : q_lk (q_cal 7) 254 = some (1, 2, q_m_X6_robotThere, 1154, 1155, 1156, 42) := rfl
theorem c_7_257 : q_lk (q_cal 7) 257 = some (1, 1, q_m_X6_enteredNeighbors, 1159, 1160, 1161, 42) := rfl
theorem c_7_260 : q_lk (q_cal 7) 260 = some (0, 1, q_m_X7_signOf, 1387, 1388, 0, 41) := rfl
theorem c_7_264 : q_lk (q_cal 7) 264 = some (1, 2, q_m_X0_between, 1195, 1196, 1197, 48) := rfl
theorem c_7_270 : q_lk (q_cal 7) 270 = some (1, 2, q_m_X0_betweenByTable, 1227, 1228, 1229, 48) := rfl
theorem c_7_273 : q_lk (q_cal 7) 273 = some (1, 1, q_m_X0_countFrom, 1257, 1258, 1259, 48) := rfl
theorem c_7_276 : q_lk (q_cal 7) 276 = some (1, 1, q_m_X0_farthestFrom, 1265, 1266, 1267, 48) := rfl
theorem c_7_279 : q_lk (q_cal 7) 279 = some (1, 0, q_m_X5_lastCell, 1215, 1034, 1035, 43) := rfl
theorem c_7_282 : q_lk (q_cal 7) 282 = some (1, 1, q_m_X6_isLoaded, 1216, 1087, 1088, 42) := rfl
theorem c_7_288 : q_lk (q_cal 7) 288 = some (1, 1, q_m_X5_cellAhead, 1149, 920, 921, 43) := rfl
theorem c_7_291 : q_lk (q_cal 7) 291 = some (1, 2, q_m_X4_findTickByTick, 1286, 1287, 1288, 49) := rfl
theorem c_7_303 : q_lk (q_cal 7) 303 = some (1, 1, q_m_X6_robotWith, 1324, 860, 861, 42) := rfl
theorem c_7_312 : q_lk (q_cal 7) 312 = some (1, 1, q_m_X6_ordersIn, 847, 848, 849, 42) := rfl
theorem c_7_315 : q_lk (q_cal 7) 315 = some (1, 1, q_m_X6_waitingOrder, 1308, 1309, 1310, 42) := rfl
theorem c_7_318 : q_lk (q_cal 7) 318 = some (1, 1, q_m_X0_bestRobotFor, 1336, 1337, 1338, 48) := rfl
theorem c_7_328 : q_lk (q_cal 7) 328 = some (1, 0, q_m_X6_loadedCount, 1368, 1369, 1370, 42) := rfl
theorem c_7_331 : q_lk (q_cal 7) 331 = some (1, 0, q_m_X6_latenessSum, 1376, 1377, 1378, 42) := rfl
theorem c_7_343 : q_lk (q_cal 7) 343 = some (1, 0, q_m_X6_stepSum, 876, 877, 878, 42) := rfl
theorem c_7_346 : q_lk (q_cal 7) 346 = some (1, 0, q_m_X6_pickedSum, 880, 881, 882, 42) := rfl
theorem c_7_349 : q_lk (q_cal 7) 349 = some (1, 0, q_m_X6_batterySum, 884, 885, 886, 42) := rfl
theorem c_7_355 : q_lk (q_cal 7) 355 = some (1, 1, q_m_X1_giveBack, 1403, 1404, 1405, 46) := rfl
theorem c_7_361 : q_lk (q_cal 7) 361 = some (1, 2, q_m_X6_lowestRobotEverIn, 911, 912, 913, 42) := rfl
theorem c_8_1 : q_lk (q_cal 8) 1 = some (2, 1, q_m_J5_init_d00df, 370, 371, 0, 50) := rfl
theorem c_8_137 : q_lk (q_cal 8) 137 = some (2, 1, q_m_J0_init_81219, 526, 527, 0, 52) := rfl
theorem c_9_8 : q_lk (q_cal 9) 8 = some (1, 1, q_m_X7_append, 712, 713, 714, 41) := rfl
theorem c_9_16 : q_lk (q_cal 9) 16 = some (1, 0, q_m_X7_layout, 750, 751, 752, 41) := rfl
theorem c_9_22 : q_lk (q_cal 9) 22 = some (1, 0, q_m_J0_length_8abf5, 683, 473, 474, 52) := rfl
theorem c_9_27 : q_lk (q_cal 9) 27 = some (1, 1, q_m_J0_charAt_5068e, 684, 685, 686, 52) := rfl
theorem c_9_31 : q_lk (q_cal 9) 31 = some (0, 2, q_m_L_append, 708, 709, 0, 40) := rfl
theorem c_9_36 : q_lk (q_cal 9) 36 = some (0, 1, q_m_L_layout, 746, 747, 0, 40) := rfl
theorem c_9_39 : q_lk (q_cal 9) 39 = some (1, 2, q_m_X7_add, 894, 895, 896, 41) := rfl
theorem c_9_45 : q_lk (q_cal 9) 45 = some (1, 1, q_m_X7_takeOff, 1422, 1423, 1424, 41) := rfl
theorem c_9_49 : q_lk (q_cal 9) 49 = some (1, 4, q_m_X7_order, 957, 958, 959, 41) := rfl
theorem c_9_53 : q_lk (q_cal 9) 53 = some (1, 2, q_m_X7_assign, 984, 985, 986, 41) := rfl
theorem c_9_56 : q_lk (q_cal 9) 56 = some (1, 1, q_m_X7_release, 1437, 1438, 1439, 41) := rfl
theorem c_9_59 : q_lk (q_cal 9) 59 = some (1, 1, q_m_X7_close, 1452, 1453, 1454, 41) := rfl
theorem c_9_62 : q_lk (q_cal 9) 62 = some (1, 1, q_m_X7_open, 1463, 1464, 1465, 41) := rfl
theorem c_9_65 : q_lk (q_cal 9) 65 = some (1, 2, q_m_X7_set, 812, 813, 814, 41) := rfl
theorem c_9_68 : q_lk (q_cal 9) 68 = some (1, 2, q_m_X7_plan, 1002, 1003, 1004, 41) := rfl
theorem c_9_71 : q_lk (q_cal 9) 71 = some (1, 1, q_m_X7_cancel, 1474, 1475, 1476, 41) := rfl
theorem c_9_74 : q_lk (q_cal 9) 74 = some (1, 1, q_m_X7_pass, 1097, 1098, 1099, 41) := rfl
theorem c_9_77 : q_lk (q_cal 9) 77 = some (1, 2, q_m_X7_distance, 1191, 1192, 1193, 41) := rfl
theorem c_9_84 : q_lk (q_cal 9) 84 = some (1, 2, q_m_X7_distanceAgain, 1223, 1224, 1225, 41) := rfl
theorem c_9_87 : q_lk (q_cal 9) 87 = some (1, 2, q_m_X7_arrival, 1275, 1276, 1277, 41) := rfl
theorem c_9_90 : q_lk (q_cal 9) 90 = some (1, 2, q_m_X7_arrivalAgain, 1282, 1283, 1284, 41) := rfl
theorem c_9_93 : q_lk (q_cal 9) 93 = some (1, 1, q_m_X7_suited, 1332, 1333, 1334, 41) := rfl
theorem c_9_99 : q_lk (q_cal 9) 99 = some (1, 1, q_m_X7_waiting, 1304, 1305, 1306, 41) := rfl
theorem c_9_102 : q_lk (q_cal 9) 102 = some (1, 1, q_m_X7_reason, 935, 936, 937, 41) := rfl
theorem c_9_106 : q_lk (q_cal 9) 106 = some (1, 0, q_m_X7_undo, 1399, 1400, 1401, 41) := rfl
theorem c_9_109 : q_lk (q_cal 9) 109 = some (1, 1, q_m_X7_account, 843, 844, 845, 41) := rfl
theorem c_9_112 : q_lk (q_cal 9) 112 = some (2, 0, q_m_X7_init, 76, 77, 0, 41) := rfl
theorem c_9_113 : q_lk (q_cal 9) 113 = some (0, 2, q_m_L_cell, 360, 361, 0, 40) := rfl
theorem c_9_121 : q_lk (q_cal 9) 121 = some (2, 0, q_m_J4_init_da8c8, 367, 368, 0, 51) := rfl
theorem c_9_122 : q_lk (q_cal 9) 122 = some (1, 1, q_m_J4_append_15ec4, 397, 398, 399, 51) := rfl
theorem c_9_135 : q_lk (q_cal 9) 135 = some (1, 0, q_m_J4_toString_0e30d, 520, 521, 522, 51) := rfl
theorem c_9_139 : q_lk (q_cal 9) 139 = some (0, 2, q_m_L_layout_, 680, 681, 0, 40) := rfl
theorem c_9_142 : q_lk (q_cal 9) 142 = some (0, 3, q_m_L_set, 808, 809, 0, 40) := rfl
theorem c_9_145 : q_lk (q_cal 9) 145 = some (0, 1, q_m_L_cells, 888, 889, 0, 40) := rfl
theorem c_9_148 : q_lk (q_cal 9) 148 = some (0, 3, q_m_L_add, 891, 892, 0, 40) := rfl
theorem c_9_150 : q_lk (q_cal 9) 150 = some (0, 2, q_m_L_reason, 931, 932, 0, 40) := rfl
theorem c_9_153 : q_lk (q_cal 9) 153 = some (0, 5, q_m_L_order, 954, 955, 0, 40) := rfl
theorem c_9_156 : q_lk (q_cal 9) 156 = some (0, 3, q_m_L_assign, 981, 982, 0, 40) := rfl
theorem c_9_158 : q_lk (q_cal 9) 158 = some (0, 3, q_m_L_plan, 999, 1000, 0, 40) := rfl
theorem c_9_160 : q_lk (q_cal 9) 160 = some (0, 2, q_m_L_pass, 1094, 1095, 0, 40) := rfl
theorem c_9_163 : q_lk (q_cal 9) 163 = some (0, 1, q_m_L_drawn, 71, 72, 0, 40) := rfl
theorem c_9_167 : q_lk (q_cal 9) 167 = some (0, 1, q_m_L_plans, 1127, 1128, 0, 40) := rfl
theorem c_9_171 : q_lk (q_cal 9) 171 = some (0, 2, q_m_L_distances, 1217, 1218, 0, 40) := rfl
theorem c_9_175 : q_lk (q_cal 9) 175 = some (0, 2, q_m_L_arrivals, 1269, 1270, 0, 40) := rfl
theorem c_9_178 : q_lk (q_cal 9) 178 = some (0, 1, q_m_L_orders, 1298, 1299, 0, 40) := rfl
theorem c_9_181 : q_lk (q_cal 9) 181 = some (0, 1, q_m_L_accounts, 1346, 1347, 0, 40) := rfl
theorem c_9_184 : q_lk (q_cal 9) 184 = some (0, 1, q_m_L_letters, 1380, 1381, 0, 40) := rfl
theorem c_9_187 : q_lk (q_cal 9) 187 = some (0, 1, q_m_L_goesOn, 1392, 1393, 0, 40) := rfl
theorem c_9_190 : q_lk (q_cal 9) 190 = some (0, 2, q_m_L_undone, 1407, 1408, 0, 40) := rfl
theorem c_9_193 : q_lk (q_cal 9) 193 = some (1, 2, q_m_X7_planned, 1130, 1131, 1132, 41) := rfl
theorem c_9_196 : q_lk (q_cal 9) 196 = some (1, 2, q_m_X7_cell, 1150, 1151, 1152, 41) := rfl
theorem c_9_198 : q_lk (q_cal 9) 198 = some (1, 2, q_m_X7_reserved, 1165, 1166, 1167, 41) := rfl
theorem c_9_201 : q_lk (q_cal 9) 201 = some (0, 3, q_m_L_distance, 1169, 1170, 0, 40) := rfl
theorem c_9_203 : q_lk (q_cal 9) 203 = some (1, 2, q_m_X7_robotOf, 1211, 1212, 1213, 41) := rfl
theorem c_9_206 : q_lk (q_cal 9) 206 = some (0, 3, q_m_L_distanceAgain, 1220, 1221, 0, 40) := rfl
theorem c_9_213 : q_lk (q_cal 9) 213 = some (1, 1, q_m_X7_reach, 1253, 1254, 1255, 41) := rfl
theorem c_9_216 : q_lk (q_cal 9) 216 = some (1, 1, q_m_X7_farthest, 1261, 1262, 1263, 41) := rfl
theorem c_9_219 : q_lk (q_cal 9) 219 = some (0, 3, q_m_L_arrival, 1272, 1273, 0, 40) := rfl
theorem c_9_221 : q_lk (q_cal 9) 221 = some (0, 3, q_m_L_arrivalAgain, 1279, 1280, 0, 40) := rfl
theorem c_9_223 : q_lk (q_cal 9) 223 = some (0, 2, q_m_L_waiting, 1301, 1302, 0, 40) := rfl
theorem c_9_225 : q_lk (q_cal 9) 225 = some (1, 2, q_m_X7_orderOf, 1320, 1321, 1322, 41) := rfl
theorem c_9_228 : q_lk (q_cal 9) 228 = some (1, 2, q_m_X7_line, 1325, 1326, 1327, 41) := rfl
theorem c_9_231 : q_lk (q_cal 9) 231 = some (0, 2, q_m_L_suited, 1329, 1330, 0, 40) := rfl
theorem c_9_233 : q_lk (q_cal 9) 233 = some (1, 0, q_m_X7_loaded, 1349, 1350, 1351, 41) := rfl
theorem c_9_237 : q_lk (q_cal 9) 237 = some (1, 0, q_m_X7_lateness, 1372, 1373, 1374, 41) := rfl
theorem c_9_241 : q_lk (q_cal 9) 241 = some (1, 1, q_m_X7_letter, 1383, 1384, 1385, 41) := rfl
theorem c_9_249 : q_lk (q_cal 9) 249 = some (0, 1, q_m_L_undo, 1396, 1397, 0, 40) := rfl
theorem c_9_263 : q_lk (q_cal 9) 263 = some (0, 1, q_m_L_sum, 1410, 1411, 0, 40) := rfl
theorem c_9_267 : q_lk (q_cal 9) 267 = some (0, 2, q_m_L_takeOff, 1419, 1420, 0, 40) := rfl
theorem c_9_269 : q_lk (q_cal 9) 269 = some (0, 2, q_m_L_release, 1434, 1435, 0, 40) := rfl
theorem c_9_271 : q_lk (q_cal 9) 271 = some (0, 2, q_m_L_close, 1449, 1450, 0, 40) := rfl
theorem c_9_273 : q_lk (q_cal 9) 273 = some (0, 2, q_m_L_open, 1460, 1461, 0, 40) := rfl
theorem c_9_275 : q_lk (q_cal 9) 275 = some (0, 2, q_m_L_cancel, 1471, 1472, 0, 40) := rfl
theorem c_10_339 : q_lk (q_cal 10) 339 = some (0, 3, q_m_J7_copyOfRangeByte_39247, 550, 551, 0, 56) := rfl
theorem c_10_343 : q_lk (q_cal 10) 343 = some (0, 2, q_m_J7_checkLength_df160, 553, 554, 0, 56) := rfl
theorem c_12_54 : q_lk (q_cal 12) 54 = some (0, 3, q_m_J7_copyOfRange_39247, 547, 548, 0, 56) := rfl
theorem c_12_335 : q_lk (q_cal 12) 335 = some (1, 0, q_m_J0_coder_7d493, 476, 477, 478, 52) := rfl
theorem c_12_489 : q_lk (q_cal 12) 489 = some (2, 2, q_m_J0_init_db425, 529, 530, 0, 52) := rfl
theorem c_12_492 : q_lk (q_cal 12) 492 = some (1, 0, q_m_J0_isLatin1_aae02, 688, 689, 690, 52) := rfl
theorem c_12_495 : q_lk (q_cal 12) 495 = some (0, 2, q_m_J1_charAt_3b067, 692, 693, 0, 58) := rfl
theorem c_12_1059 : q_lk (q_cal 12) 1059 = some (0, 3, q_m_J3_checkIndex_8e157, 698, 699, 0, 57) := rfl
theorem c_13_9 : q_lk (q_cal 13) 9 = some (0, 2, q_m_J0_checkIndex_df160, 695, 696, 0, 52) := rfl
theorem c_15_32 : q_lk (q_cal 15) 32 = some (1, 0, q_m_J0_length_8abf5, 472, 473, 474, 52) := rfl
theorem c_15_40 : q_lk (q_cal 15) 40 = some (1, 0, q_m_J0_coder_7d493, 489, 477, 478, 52) := rfl
theorem c_15_108 : q_lk (q_cal 15) 108 = some (0, 2, q_m_J7_copyOf_9075b, 427, 428, 0, 56) := rfl
theorem c_15_114 : q_lk (q_cal 15) 114 = some (0, 3, q_m_J8_newLength_cabcc, 416, 417, 0, 54) := rfl
theorem c_15_399 : q_lk (q_cal 15) 399 = some (1, 3, q_m_J0_getBytes_840e7, 509, 510, 511, 52) := rfl
