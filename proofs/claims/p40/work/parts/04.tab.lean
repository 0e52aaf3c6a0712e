/-! tables of the methods, fields and calls, printed by program (wip/whole/gen_03.py) out of what TURN printed -/
/-- a method: its name, its bytes, how many locals, what it answers, its owner, its height in the calls, where its word lies, its handlers -/
abbrev q_M : Type := MethodName × ByteArray × Nat × Option FieldType × Nat × Nat × Nat × List (Nat × Nat × Nat × Nat)
def q_nm : Nat → String
  | 0 => RX0
  | 1 => RX1
  | 2 => RX2
  | 3 => RX3
  | 4 => RX4
  | 5 => RX5
  | 6 => RX6
  | 7 => RX7
  | 8 => RJ4
  | 9 => RL
  | 10 => RJ7
  | 11 => RJ9
  | 12 => RJ0
  | 13 => RJ1
  | 14 => RJ3
  | 15 => RJ5
  | 16 => RJ8
  | _ => ""
def q_cnm : Nat → String
  | 0 => RX0
  | 1 => RX1
  | 2 => RX2
  | 3 => RX3
  | 4 => RX4
  | 5 => RX5
  | 6 => RX6
  | 7 => RX7
  | 8 => RJ4
  | _ => RJ0
def q_T : Nat → u_T
  | 0 => TX0
  | 1 => TX1
  | 2 => TX2
  | 3 => TX3
  | 4 => TX4
  | 5 => TX5
  | 6 => TX6
  | 7 => TX7
  | 8 => TJ4
  | _ => TJ0
def q_N : Nat → Nat
  | 0 => 9
  | 1 => 3
  | 2 => 4
  | 3 => 5
  | 4 => 8
  | 5 => 7
  | 6 => 10
  | 7 => 10
  | 8 => 4
  | _ => 4
def q_ty : Nat → Nat → FieldType
  | 0 => tyX0
  | 1 => tyX1
  | 2 => tyX2
  | 3 => tyX3
  | 4 => tyX4
  | 5 => tyX5
  | 6 => tyX6
  | 7 => tyX7
  | 8 => tyJ4
  | _ => tyJ0
def q_cls : List vw_C := [(RX0, TX0, 9), (RX1, TX1, 3), (RX2, TX2, 4), (RX3, TX3, 5), (RX4, TX4, 8), (RX5, TX5, 7), (RX6, TX6, 10), (RX7, TX7, 10), (RJ4, TJ4, 4), (RJ0, TJ0, 4)]
abbrev q_m_J0_coder_7d493 : q_M := (yJ0_coder_7d493, cJ0_coder_7d493, 1, some .byte, 12, 0, 479, [])
abbrev q_m_J0_isLatin1_aae02 : q_M := (yJ0_isLatin1_aae02, cJ0_isLatin1_aae02, 1, some .boolean, 12, 0, 691, [])
abbrev q_m_J3_checkIndex_8e157 : q_M := (yJ3_checkIndex_8e157, cJ3_checkIndex_8e157, 3, some .int, 14, 0, 700, [])
abbrev q_m_J5_getValue_6d5f1 : q_M := (yJ5_getValue_6d5f1, cJ5_getValue_6d5f1, 1, some (.array .byte), 15, 0, 537, [])
abbrev q_m_J5_isLatin1_aae02 : q_M := (yJ5_isLatin1_aae02, cJ5_isLatin1_aae02, 1, some .boolean, 15, 0, 445, [])
abbrev q_m_J5_length_8abf5 : q_M := (yJ5_length_8abf5, cJ5_length_8abf5, 1, some .int, 15, 0, 545, [])
abbrev q_m_J7_checkLength_df160 : q_M := (yJ7_checkLength_df160, cJ7_checkLength_df160, 2, none, 10, 0, 555, [])
abbrev q_m_J7_fill_53178 : q_M := (yJ7_fill_53178, cJ7_fill_53178, 4, none, 10, 0, 1045, [])
abbrev q_m_J7_fill_d0a16 : q_M := (yJ7_fill_d0a16, cJ7_fill_d0a16, 5, none, 10, 0, 1023, [])
abbrev q_m_L_cell : q_M := (yL_cell, cL_cell, 2, some .int, 9, 0, 362, [])
abbrev q_m_X0_isBetter : q_M := (yX0_isBetter, cX0_isBetter, 5, some .boolean, 0, 0, 1345, [])
abbrev q_m_X0_noteRound : q_M := (yX0_noteRound, cX0_noteRound, 5, none, 0, 0, 1250, [])
abbrev q_m_X2_canEndRow : q_M := (yX2_canEndRow, cX2_canEndRow, 2, some .boolean, 2, 0, 761, [])
abbrev q_m_X2_canGrowRow : q_M := (yX2_canGrowRow, cX2_canGrowRow, 2, some .boolean, 2, 0, 774, [])
abbrev q_m_X2_endRow : q_M := (yX2_endRow, cX2_endRow, 2, none, 2, 0, 765, [])
abbrev q_m_X2_isFull : q_M := (yX2_isFull, cX2_isFull, 1, some .boolean, 2, 0, 719, [])
abbrev q_m_X2_kindOf : q_M := (yX2_kindOf, cX2_kindOf, 2, some .int, 2, 0, 768, [])
abbrev q_m_X3_begin : q_M := (yX3_begin, cX3_begin, 5, none, 3, 0, 980, [])
abbrev q_m_X3_isNextLine : q_M := (yX3_isNextLine, cX3_isNextLine, 2, some .boolean, 3, 0, 1120, [])
abbrev q_m_X3_linesLeft : q_M := (yX3_linesLeft, cX3_linesLeft, 1, some .int, 3, 0, 998, [])
abbrev q_m_X4_canEndAt : q_M := (yX4_canEndAt, cX4_canEndAt, 3, some .boolean, 4, 0, 1069, [])
abbrev q_m_X4_isTaken : q_M := (yX4_isTaken, cX4_isTaken, 3, some .boolean, 4, 0, 1061, [])
abbrev q_m_X4_stepsOfPath : q_M := (yX4_stepsOfPath, cX4_stepsOfPath, 5, some .int, 4, 0, 1081, [])
abbrev q_m_X4_tracePath : q_M := (yX4_tracePath, cX4_tracePath, 4, none, 4, 0, 1073, [])
abbrev q_m_X5_begin : q_M := (yX5_begin, cX5_begin, 3, none, 5, 0, 930, [])
abbrev q_m_X5_cellAhead : q_M := (yX5_cellAhead, cX5_cellAhead, 3, some .int, 5, 0, 922, [])
abbrev q_m_X5_follow : q_M := (yX5_follow, cX5_follow, 5, none, 5, 0, 1093, [])
abbrev q_m_X6_cellCount : q_M := (yX6_cellCount, cX6_cellCount, 1, some .int, 6, 0, 807, [])
abbrev q_m_X6_columnOf : q_M := (yX6_columnOf, cX6_columnOf, 2, some .int, 6, 0, 1053, [])
abbrev q_m_X6_isOrder : q_M := (yX6_isOrder, cX6_isOrder, 2, some .boolean, 6, 0, 854, [])
abbrev q_m_X6_isRobot : q_M := (yX6_isRobot, cX6_isRobot, 2, some .boolean, 6, 0, 866, [])
abbrev q_m_X7_refuse : q_M := (yX7_refuse, cX7_refuse, 3, some .boolean, 7, 0, 823, [])
abbrev q_m_X7_signOf : q_M := (yX7_signOf, cX7_signOf, 1, some .char, 7, 0, 1389, [])
abbrev q_m_J0_checkIndex_df160 : q_M := (yJ0_checkIndex_df160, cJ0_checkIndex_df160, 2, none, 12, 1, 697, [])
abbrev q_m_J0_getBytes_840e7 : q_M := (yJ0_getBytes_840e7, cJ0_getBytes_840e7, 4, none, 12, 1, 512, [])
abbrev q_m_J0_length_8abf5 : q_M := (yJ0_length_8abf5, cJ0_length_8abf5, 1, some .int, 12, 1, 475, [])
abbrev q_m_J4_length_8abf5 : q_M := (yJ4_length_8abf5, cJ4_length_8abf5, 1, some .int, 8, 1, 543, [])
abbrev q_m_J5_inflateIfNeededFor_a7421 : q_M := (yJ5_inflateIfNeededFor_a7421, cJ5_inflateIfNeededFor_a7421, 2, none, 15, 1, 488, [])
abbrev q_m_J5_init_d00df : q_M := (yJ5_init_d00df, cJ5_init_d00df, 2, none, 15, 1, 372, [])
abbrev q_m_J7_copyOfRangeByte_39247 : q_M := (yJ7_copyOfRangeByte_39247, cJ7_copyOfRangeByte_39247, 5, some (.array .byte), 10, 1, 552, [])
abbrev q_m_J7_copyOf_9075b : q_M := (yJ7_copyOf_9075b, cJ7_copyOf_9075b, 3, some (.array .byte), 10, 1, 429, [])
abbrev q_m_J8_newLength_cabcc : q_M := (yJ8_newLength_cabcc, cJ8_newLength_cabcc, 4, some .int, 16, 1, 418, [])
abbrev q_m_X0_init : q_M := (yX0_init, cX0_init, 2, none, 0, 1, 264, [])
abbrev q_m_X2_findFault : q_M := (yX2_findFault, cX2_findFault, 4, some .int, 2, 1, 757, [])
abbrev q_m_X2_init : q_M := (yX2_init, cX2_init, 1, none, 2, 1, 239, [])
abbrev q_m_X2_take : q_M := (yX2_take, cX2_take, 2, none, 2, 1, 744, [])
abbrev q_m_X3_copyFrom : q_M := (yX3_copyFrom, cX3_copyFrom, 2, none, 3, 1, 796, [])
abbrev q_m_X3_init : q_M := (yX3_init, cX3_init, 1, none, 3, 1, 138, [])
abbrev q_m_X4_changesPlaces : q_M := (yX4_changesPlaces, cX4_changesPlaces, 6, some .boolean, 4, 1, 1065, [])
abbrev q_m_X4_horizon : q_M := (yX4_horizon, cX4_horizon, 1, some .int, 4, 1, 1041, [])
abbrev q_m_X4_init : q_M := (yX4_init, cX4_init, 2, none, 4, 1, 301, [])
abbrev q_m_X5_charge : q_M := (yX5_charge, cX5_charge, 2, none, 5, 1, 1125, [])
abbrev q_m_X5_copyFrom : q_M := (yX5_copyFrom, cX5_copyFrom, 2, none, 5, 1, 791, [])
abbrev q_m_X5_goOn : q_M := (yX5_goOn, cX5_goOn, 3, none, 5, 1, 1112, [])
abbrev q_m_X5_init : q_M := (yX5_init, cX5_init, 1, none, 5, 1, 93, [])
abbrev q_m_X5_isEverIn : q_M := (yX5_isEverIn, cX5_isEverIn, 3, some .boolean, 5, 1, 918, [])
abbrev q_m_X5_lastCell : q_M := (yX5_lastCell, cX5_lastCell, 1, some .int, 5, 1, 1036, [])
abbrev q_m_X6_batterySum : q_M := (yX6_batterySum, cX6_batterySum, 3, some .int, 6, 1, 887, [])
abbrev q_m_X6_dropRobot : q_M := (yX6_dropRobot, cX6_dropRobot, 4, none, 6, 1, 1433, [])
abbrev q_m_X6_freeRobot : q_M := (yX6_freeRobot, cX6_freeRobot, 3, some .int, 6, 1, 1448, [])
abbrev q_m_X6_isCell : q_M := (yX6_isCell, cX6_isCell, 2, some .boolean, 6, 1, 874, [])
abbrev q_m_X6_isLoaded : q_M := (yX6_isLoaded, cX6_isLoaded, 3, some .boolean, 6, 1, 1089, [])
abbrev q_m_X6_isRankedBefore : q_M := (yX6_isRankedBefore, cX6_isRankedBefore, 3, some .boolean, 6, 1, 1319, [])
abbrev q_m_X6_latenessSum : q_M := (yX6_latenessSum, cX6_latenessSum, 3, some .int, 6, 1, 1379, [])
abbrev q_m_X6_neighbor : q_M := (yX6_neighbor, cX6_neighbor, 3, some .int, 6, 1, 1049, [])
abbrev q_m_X6_pickedSum : q_M := (yX6_pickedSum, cX6_pickedSum, 3, some .int, 6, 1, 883, [])
abbrev q_m_X6_putOrder : q_M := (yX6_putOrder, cX6_putOrder, 6, some .int, 6, 1, 976, [])
abbrev q_m_X6_putRobot : q_M := (yX6_putRobot, cX6_putRobot, 4, some .int, 6, 1, 926, [])
abbrev q_m_X6_rebuild : q_M := (yX6_rebuild, cX6_rebuild, 5, none, 6, 1, 802, [])
abbrev q_m_X6_robotThere : q_M := (yX6_robotThere, cX6_robotThere, 4, some .int, 6, 1, 1157, [])
abbrev q_m_X6_robotWith : q_M := (yX6_robotWith, cX6_robotWith, 3, some .int, 6, 1, 862, [])
abbrev q_m_X6_stepSum : q_M := (yX6_stepSum, cX6_stepSum, 3, some .int, 6, 1, 879, [])
abbrev q_m_X7_refusesPass : q_M := (yX7_refusesPass, cX7_refusesPass, 2, some .boolean, 7, 1, 1104, [])
abbrev q_m_X7_refusesRelease : q_M := (yX7_refusesRelease, cX7_refusesRelease, 2, some .boolean, 7, 1, 1444, [])
abbrev q_m_X7_refusesSet : q_M := (yX7_refusesSet, cX7_refusesSet, 3, some .boolean, 7, 1, 819, [])
abbrev q_m_X7_refusesTakeOff : q_M := (yX7_refusesTakeOff, cX7_refusesTakeOff, 2, some .boolean, 7, 1, 1429, [])
abbrev q_m_J1_charAt_3b067 : q_M := (yJ1_charAt_3b067, cJ1_charAt_3b067, 2, some .char, 13, 2, 694, [])
abbrev q_m_J4_init_da8c8 : q_M := (yJ4_init_da8c8, cJ4_init_da8c8, 1, none, 8, 2, 369, [])
abbrev q_m_J5_newCapacity_0f7a4 : q_M := (yJ5_newCapacity_0f7a4, cJ5_newCapacity_0f7a4, 6, some .int, 15, 2, 415, [])
abbrev q_m_J5_putStringAt_47b60 : q_M := (yJ5_putStringAt_47b60, cJ5_putStringAt_47b60, 3, none, 15, 2, 484, [])
abbrev q_m_J7_copyOfRange_39247 : q_M := (yJ7_copyOfRange_39247, cJ7_copyOfRange_39247, 3, some (.array .byte), 10, 2, 549, [])
abbrev q_m_X0_stepsTo : q_M := (yX0_stepsTo, cX0_stepsTo, 2, some .int, 0, 2, 1210, [])
abbrev q_m_X5_lastTickIn : q_M := (yX5_lastTickIn, cX5_lastTickIn, 3, some .int, 5, 2, 1032, [])
abbrev q_m_X6_canEnter : q_M := (yX6_canEnter, cX6_canEnter, 2, some .boolean, 6, 2, 906, [])
abbrev q_m_X6_closedCount : q_M := (yX6_closedCount, cX6_closedCount, 3, some .int, 6, 2, 870, [])
abbrev q_m_X6_copyFrom : q_M := (yX6_copyFrom, cX6_copyFrom, 3, none, 6, 2, 787, [])
abbrev q_m_X6_endPlan : q_M := (yX6_endPlan, cX6_endPlan, 3, some .int, 6, 2, 1116, [])
abbrev q_m_X6_init : q_M := (yX6_init, cX6_init, 2, none, 6, 2, 86, [])
abbrev q_m_X6_isCellOrNone : q_M := (yX6_isCellOrNone, cX6_isCellOrNone, 2, some .boolean, 6, 2, 968, [])
abbrev q_m_X6_loadedCount : q_M := (yX6_loadedCount, cX6_loadedCount, 3, some .int, 6, 2, 1371, [])
abbrev q_m_X6_lowestRobotEverIn : q_M := (yX6_lowestRobotEverIn, cX6_lowestRobotEverIn, 4, some .int, 6, 2, 914, [])
abbrev q_m_X6_stateOf : q_M := (yX6_stateOf, cX6_stateOf, 2, some .int, 6, 2, 858, [])
abbrev q_m_X6_stepCost : q_M := (yX6_stepCost, cX6_stepCost, 2, some .int, 6, 2, 1085, [])
abbrev q_m_X7_refusesLine : q_M := (yX7_refusesLine, cX7_refusesLine, 2, some .boolean, 7, 2, 972, [])
abbrev q_m_X7_refusesOpen : q_M := (yX7_refusesOpen, cX7_refusesOpen, 2, some .boolean, 7, 2, 1470, [])
abbrev q_m_J0_charAt_5068e : q_M := (yJ0_charAt_5068e, cJ0_charAt_5068e, 2, some .char, 12, 3, 687, [])
abbrev q_m_J0_init_db425 : q_M := (yJ0_init_db425, cJ0_init_db425, 5, none, 12, 3, 531, [])
abbrev q_m_J5_ensureCapacityInternal_d00df : q_M := (yJ5_ensureCapacityInternal_d00df, cJ5_ensureCapacityInternal_d00df, 3, none, 15, 3, 411, [])
abbrev q_m_X0_measureFrom : q_M := (yX0_measureFrom, cX0_measureFrom, 7, none, 0, 3, 1202, [])
abbrev q_m_X0_nearOfNeighbors : q_M := (yX0_nearOfNeighbors, cX0_nearOfNeighbors, 6, some .long, 0, 3, 1246, [])
abbrev q_m_X0_openCells : q_M := (yX0_openCells, cX0_openCells, 4, some .long, 0, 3, 1238, [])
abbrev q_m_X1_giveBack : q_M := (yX1_giveBack, cX1_giveBack, 2, none, 1, 3, 1406, [])
abbrev q_m_X1_init : q_M := (yX1_init, cX1_init, 2, none, 1, 3, 219, [])
abbrev q_m_X1_keep : q_M := (yX1_keep, cX1_keep, 2, none, 1, 3, 783, [])
abbrev q_m_X4_canStep : q_M := (yX4_canStep, cX4_canStep, 4, some .boolean, 4, 3, 1057, [])
abbrev q_m_X4_noteOther : q_M := (yX4_noteOther, cX4_noteOther, 3, none, 4, 3, 1027, [])
abbrev q_m_X6_enteredNeighbors : q_M := (yX6_enteredNeighbors, cX6_enteredNeighbors, 4, some .int, 6, 3, 1162, [])
abbrev q_m_X6_ordersIn : q_M := (yX6_ordersIn, cX6_ordersIn, 4, some .int, 6, 3, 850, [])
abbrev q_m_X6_tick : q_M := (yX6_tick, cX6_tick, 4, some .int, 6, 3, 1108, [])
abbrev q_m_X6_waitingBefore : q_M := (yX6_waitingBefore, cX6_waitingBefore, 4, some .int, 6, 3, 1315, [])
abbrev q_m_X7_refusesAssign : q_M := (yX7_refusesAssign, cX7_refusesAssign, 3, some .boolean, 7, 3, 991, [])
abbrev q_m_X7_refusesFound : q_M := (yX7_refusesFound, cX7_refusesFound, 4, some .boolean, 7, 3, 1077, [])
abbrev q_m_X7_refusesGoal : q_M := (yX7_refusesGoal, cX7_refusesGoal, 3, some .boolean, 7, 3, 1009, [])
abbrev q_m_X7_refusesOrder : q_M := (yX7_refusesOrder, cX7_refusesOrder, 5, some .boolean, 7, 3, 964, [])
abbrev q_m_X7_refusesRobotsCell : q_M := (yX7_refusesRobotsCell, cX7_refusesRobotsCell, 4, some .boolean, 7, 3, 910, [])
abbrev q_m_J0_init_81219 : q_M := (yJ0_init_81219, cJ0_init_81219, 2, none, 12, 4, 528, [])
abbrev q_m_J5_append_cf1ce : q_M := (yJ5_append_cf1ce, cJ5_append_cf1ce, 3, some (.object "java/lang/AbstractStringBuilder"), 15, 4, 403, [])
abbrev q_m_X0_between : q_M := (yX0_between, cX0_between, 3, some .int, 0, 4, 1198, [])
abbrev q_m_X0_countFrom : q_M := (yX0_countFrom, cX0_countFrom, 4, some .int, 0, 4, 1260, [])
abbrev q_m_X0_farthestFrom : q_M := (yX0_farthestFrom, cX0_farthestFrom, 4, some .int, 0, 4, 1268, [])
abbrev q_m_X0_fillTable : q_M := (yX0_fillTable, cX0_fillTable, 6, none, 0, 4, 1242, [])
abbrev q_m_X4_canComeTo : q_M := (yX4_canComeTo, cX4_canComeTo, 7, some .boolean, 4, 4, 1297, [])
abbrev q_m_X4_prepare : q_M := (yX4_prepare, cX4_prepare, 4, some .boolean, 4, 4, 1017, [])
abbrev q_m_X6_waitingOrder : q_M := (yX6_waitingOrder, cX6_waitingOrder, 3, some .int, 6, 4, 1311, [])
abbrev q_m_X7_init : q_M := (yX7_init, cX7_init, 1, none, 7, 4, 78, [])
abbrev q_m_X7_refusesAdd : q_M := (yX7_refusesAdd, cX7_refusesAdd, 3, some .boolean, 7, 4, 901, [])
abbrev q_m_X7_refusesCancel : q_M := (yX7_refusesCancel, cX7_refusesCancel, 2, some .boolean, 7, 4, 1481, [])
abbrev q_m_X7_refusesClose : q_M := (yX7_refusesClose, cX7_refusesClose, 2, some .boolean, 7, 4, 1459, [])
abbrev q_m_J4_append_15ec4 : q_M := (yJ4_append_15ec4, cJ4_append_15ec4, 2, some (.object "java/lang/StringBuilder"), 8, 5, 400, [])
abbrev q_m_J4_toString_0e30d : q_M := (yJ4_toString_0e30d, cJ4_toString_0e30d, 1, some (.object "java/lang/String"), 8, 5, 523, [])
abbrev q_m_X0_bestRobotFor : q_M := (yX0_bestRobotFor, cX0_bestRobotFor, 6, some .int, 0, 5, 1339, [])
abbrev q_m_X0_renewTable : q_M := (yX0_renewTable, cX0_renewTable, 3, none, 0, 5, 1234, [])
abbrev q_m_X4_cellsAfter : q_M := (yX4_cellsAfter, cX4_cellsAfter, 7, some .long, 4, 5, 1293, [])
abbrev q_m_X4_findFirst : q_M := (yX4_findFirst, cX4_findFirst, 11, some .int, 4, 5, 1013, [])
abbrev q_m_X0_betweenByTable : q_M := (yX0_betweenByTable, cX0_betweenByTable, 3, some .int, 0, 6, 1230, [])
abbrev q_m_X4_findTickByTick : q_M := (yX4_findTickByTick, cX4_findTickByTick, 7, some .int, 4, 6, 1289, [])
abbrev q_m_X7_account : q_M := (yX7_account, cX7_account, 2, some .int, 7, 7, 846, [])
abbrev q_m_X7_add : q_M := (yX7_add, cX7_add, 3, some .int, 7, 7, 897, [])
abbrev q_m_X7_append : q_M := (yX7_append, cX7_append, 2, some .int, 7, 7, 715, [])
abbrev q_m_X7_arrival : q_M := (yX7_arrival, cX7_arrival, 4, some .int, 7, 7, 1278, [])
abbrev q_m_X7_arrivalAgain : q_M := (yX7_arrivalAgain, cX7_arrivalAgain, 4, some .int, 7, 7, 1285, [])
abbrev q_m_X7_assign : q_M := (yX7_assign, cX7_assign, 3, some .int, 7, 7, 987, [])
abbrev q_m_X7_cancel : q_M := (yX7_cancel, cX7_cancel, 3, some .int, 7, 7, 1477, [])
abbrev q_m_X7_cell : q_M := (yX7_cell, cX7_cell, 3, some .int, 7, 7, 1153, [])
abbrev q_m_X7_close : q_M := (yX7_close, cX7_close, 2, some .int, 7, 7, 1455, [])
abbrev q_m_X7_distance : q_M := (yX7_distance, cX7_distance, 4, some .int, 7, 7, 1194, [])
abbrev q_m_X7_distanceAgain : q_M := (yX7_distanceAgain, cX7_distanceAgain, 4, some .int, 7, 7, 1226, [])
abbrev q_m_X7_farthest : q_M := (yX7_farthest, cX7_farthest, 2, some .int, 7, 7, 1264, [])
abbrev q_m_X7_lateness : q_M := (yX7_lateness, cX7_lateness, 2, some .double, 7, 7, 1375, [])
abbrev q_m_X7_layout : q_M := (yX7_layout, cX7_layout, 1, some .int, 7, 7, 753, [])
abbrev q_m_X7_letter : q_M := (yX7_letter, cX7_letter, 3, some .char, 7, 7, 1386, [])
abbrev q_m_X7_line : q_M := (yX7_line, cX7_line, 3, some .int, 7, 7, 1328, [])
abbrev q_m_X7_loaded : q_M := (yX7_loaded, cX7_loaded, 1, some .float, 7, 7, 1352, [])
abbrev q_m_X7_open : q_M := (yX7_open, cX7_open, 2, some .int, 7, 7, 1466, [])
abbrev q_m_X7_order : q_M := (yX7_order, cX7_order, 5, some .int, 7, 7, 960, [])
abbrev q_m_X7_orderOf : q_M := (yX7_orderOf, cX7_orderOf, 4, some .int, 7, 7, 1323, [])
abbrev q_m_X7_pass : q_M := (yX7_pass, cX7_pass, 4, some .int, 7, 7, 1100, [])
abbrev q_m_X7_plan : q_M := (yX7_plan, cX7_plan, 4, some .int, 7, 7, 1005, [])
abbrev q_m_X7_planned : q_M := (yX7_planned, cX7_planned, 3, some .int, 7, 7, 1133, [])
abbrev q_m_X7_reach : q_M := (yX7_reach, cX7_reach, 2, some .int, 7, 7, 1256, [])
abbrev q_m_X7_reason : q_M := (yX7_reason, cX7_reason, 2, some .int, 7, 7, 938, [])
abbrev q_m_X7_release : q_M := (yX7_release, cX7_release, 2, some .int, 7, 7, 1440, [])
abbrev q_m_X7_reserved : q_M := (yX7_reserved, cX7_reserved, 3, some .int, 7, 7, 1168, [])
abbrev q_m_X7_robotOf : q_M := (yX7_robotOf, cX7_robotOf, 4, some .int, 7, 7, 1214, [])
abbrev q_m_X7_set : q_M := (yX7_set, cX7_set, 4, some .int, 7, 7, 815, [])
abbrev q_m_X7_suited : q_M := (yX7_suited, cX7_suited, 3, some .int, 7, 7, 1335, [])
abbrev q_m_X7_takeOff : q_M := (yX7_takeOff, cX7_takeOff, 2, some .int, 7, 7, 1425, [])
abbrev q_m_X7_undo : q_M := (yX7_undo, cX7_undo, 1, some .int, 7, 7, 1402, [])
abbrev q_m_X7_waiting : q_M := (yX7_waiting, cX7_waiting, 3, some .int, 7, 7, 1307, [])
abbrev q_m_L_accounts : q_M := (yL_accounts, cL_accounts, 7, some .boolean, 9, 8, 1348, [])
abbrev q_m_L_add : q_M := (yL_add, cL_add, 4, some .int, 9, 8, 893, [(0, 6, 7, 43)])
abbrev q_m_L_append : q_M := (yL_append, cL_append, 3, some .int, 9, 8, 710, [(0, 5, 6, 14)])
abbrev q_m_L_arrival : q_M := (yL_arrival, cL_arrival, 4, some .int, 9, 8, 1274, [(0, 6, 7, 80), (0, 6, 10, 82)])
abbrev q_m_L_arrivalAgain : q_M := (yL_arrivalAgain, cL_arrivalAgain, 4, some .int, 9, 8, 1281, [(0, 6, 7, 80), (0, 6, 10, 82)])
abbrev q_m_L_assign : q_M := (yL_assign, cL_assign, 4, some .int, 9, 8, 983, [(0, 6, 7, 43)])
abbrev q_m_L_cancel : q_M := (yL_cancel, cL_cancel, 3, some .int, 9, 8, 1473, [(0, 5, 6, 43)])
abbrev q_m_L_cells : q_M := (yL_cells, cL_cells, 1, some .int, 9, 8, 890, [])
abbrev q_m_L_close : q_M := (yL_close, cL_close, 3, some .int, 9, 8, 1451, [(0, 5, 6, 43)])
abbrev q_m_L_distance : q_M := (yL_distance, cL_distance, 4, some .int, 9, 8, 1171, [(0, 6, 7, 80), (0, 6, 10, 82)])
abbrev q_m_L_distanceAgain : q_M := (yL_distanceAgain, cL_distanceAgain, 4, some .int, 9, 8, 1222, [(0, 6, 7, 80), (0, 6, 10, 82)])
abbrev q_m_L_layout : q_M := (yL_layout, cL_layout, 2, some .int, 9, 8, 748, [(0, 4, 5, 20)])
abbrev q_m_L_open : q_M := (yL_open, cL_open, 3, some .int, 9, 8, 1462, [(0, 5, 6, 43)])
abbrev q_m_L_order : q_M := (yL_order, cL_order, 6, some .int, 9, 8, 956, [(0, 9, 10, 43)])
abbrev q_m_L_pass : q_M := (yL_pass, cL_pass, 3, some .int, 9, 8, 1096, [(0, 5, 6, 43)])
abbrev q_m_L_plan : q_M := (yL_plan, cL_plan, 4, some .int, 9, 8, 1001, [(0, 6, 7, 43)])
abbrev q_m_L_reason : q_M := (yL_reason, cL_reason, 3, some .int, 9, 8, 933, [(0, 5, 6, 82)])
abbrev q_m_L_release : q_M := (yL_release, cL_release, 3, some .int, 9, 8, 1436, [(0, 5, 6, 43)])
abbrev q_m_L_set : q_M := (yL_set, cL_set, 4, some .int, 9, 8, 810, [(0, 6, 7, 43)])
abbrev q_m_L_suited : q_M := (yL_suited, cL_suited, 3, some .int, 9, 8, 1331, [(0, 5, 6, 80), (0, 5, 9, 82)])
abbrev q_m_L_takeOff : q_M := (yL_takeOff, cL_takeOff, 3, some .int, 9, 8, 1421, [(0, 5, 6, 43)])
abbrev q_m_L_undo : q_M := (yL_undo, cL_undo, 2, some .int, 9, 8, 1398, [(0, 4, 5, 14)])
abbrev q_m_L_waiting : q_M := (yL_waiting, cL_waiting, 3, some .int, 9, 8, 1303, [(0, 5, 6, 82)])
abbrev q_m_L_arrivals : q_M := (yL_arrivals, cL_arrivals, 7, some .boolean, 9, 9, 1271, [])
abbrev q_m_L_distances : q_M := (yL_distances, cL_distances, 10, some .boolean, 9, 9, 1219, [])
abbrev q_m_L_layout_ : q_M := (yL_layout_, cL_layout_, 3, some .int, 9, 9, 682, [])
abbrev q_m_L_letters : q_M := (yL_letters, cL_letters, 5, some .boolean, 9, 9, 1382, [])
abbrev q_m_L_orders : q_M := (yL_orders, cL_orders, 11, some .boolean, 9, 9, 1300, [])
abbrev q_m_L_plans : q_M := (yL_plans, cL_plans, 6, some .boolean, 9, 9, 1129, [])
abbrev q_m_L_sum : q_M := (yL_sum, cL_sum, 5, some .long, 9, 9, 1412, [])
abbrev q_m_L_drawn : q_M := (yL_drawn, cL_drawn, 9, some (.object "RobotAisles"), 9, 10, 73, [])
abbrev q_m_L_goesOn : q_M := (yL_goesOn, cL_goesOn, 11, some .boolean, 9, 10, 1394, [])
abbrev q_m_L_undone : q_M := (yL_undone, cL_undone, 7, some .boolean, 9, 10, 1409, [])
abbrev q_m_L_law : q_M := (yL_law, code, 2, some .boolean, 9, 11, 0, [])
def q_fl : Nat → List (Nat × (Nat × Nat × Nat))
  | 0 => [(9, (0, 0, 268)), (15, (0, 1, 269)), (19, (0, 2, 270)), (24, (0, 3, 271)), (27, (0, 4, 272)), (31, (0, 5, 273)), (64, (6, 7, 187)), (68, (5, 2, 105)), (74, (5, 0, 97)), (84, (5, 1, 101)), (108, (0, 6, 274)), (111, (6, 0, 170)), (114, (0, 7, 275)), (117, (6, 1, 173)), (120, (0, 8, 276))]
  | 1 => [(11, (1, 0, 224)), (18, (1, 1, 225)), (26, (1, 2, 226))]
  | 2 => [(9, (2, 0, 241)), (15, (2, 1, 243)), (23, (2, 2, 247)), (26, (2, 3, 249))]
  | 3 => [(9, (3, 4, 151)), (15, (3, 3, 148)), (19, (3, 0, 140)), (22, (3, 1, 143)), (25, (3, 2, 145))]
  | 4 => [(9, (4, 0, 303)), (15, (4, 1, 304)), (19, (4, 2, 305)), (22, (4, 3, 306)), (26, (4, 4, 307)), (43, (6, 7, 186)), (49, (4, 5, 309)), (53, (5, 0, 96)), (73, (4, 6, 310)), (94, (4, 7, 311)), (116, (6, 9, 192))]
  | 5 => [(9, (5, 6, 115)), (15, (5, 2, 104)), (19, (5, 0, 95)), (22, (5, 1, 100)), (25, (5, 3, 108)), (28, (5, 4, 111)), (31, (5, 5, 114))]
  | 6 => [(9, (6, 0, 169)), (15, (6, 1, 172)), (18, (6, 5, 181)), (22, (6, 6, 183)), (28, (6, 7, 185)), (35, (6, 8, 189)), (40, (6, 9, 191)), (52, (6, 2, 175)), (55, (6, 3, 177)), (58, (6, 4, 179)), (68, (2, 2, 246)), (71, (2, 3, 248)), (72, (2, 1, 245)), (75, (2, 0, 242)), (112, (5, 2, 107)), (118, (3, 2, 146)), (127, (3, 3, 149)), (143, (3, 0, 141)), (152, (5, 3, 109)), (155, (5, 1, 103)), (158, (5, 4, 113)), (168, (5, 0, 99))]
  | 7 => [(12, (7, 0, 329)), (16, (7, 1, 330)), (22, (7, 2, 331)), (29, (7, 3, 332)), (38, (7, 4, 333)), (45, (7, 5, 334)), (49, (7, 6, 335)), (53, (7, 7, 336)), (57, (7, 8, 337)), (60, (7, 9, 338)), (74, (2, 1, 244)), (112, (6, 3, 178)), (131, (6, 7, 188)), (135, (5, 2, 106)), (151, (6, 4, 180)), (157, (6, 5, 182)), (164, (6, 8, 190)), (189, (6, 6, 184)), (202, (6, 9, 193)), (220, (4, 4, 308)), (230, (5, 4, 112)), (233, (5, 0, 98)), (239, (5, 1, 102)), (285, (5, 3, 110)), (294, (3, 0, 142)), (297, (3, 1, 144)), (300, (3, 2, 147)), (306, (3, 3, 150)), (309, (3, 4, 152)), (334, (6, 0, 171)), (337, (6, 1, 174)), (340, (6, 2, 176)), (352, (1, 2, 227))]
  | 12 => [(9, (9, 0, 669)), (15, (9, 1, 670)), (1048, (8, 2, 385))]
  | 15 => [(15, (8, 0, 383)), (22, (8, 1, 384)), (79, (8, 3, 386))]
  | _ => []
def q_cal : Nat → List (Nat × (Nat × Nat × q_M × Nat × Nat × Nat × Nat))
  | 0 => [(34, (1, 1, q_m_X0_measureFrom, 1199, 1201, 24, 48)), (38, (1, 1, q_m_X0_stepsTo, 1207, 1209, 25, 48)), (42, (1, 1, q_m_X6_isCell, 1204, 872, 873, 42)), (48, (0, 2, q_m_J7_fill_53178, 1203, 1044, 0, 56)), (54, (1, 2, q_m_X6_neighbor, 1205, 1047, 1048, 42)), (58, (1, 1, q_m_X6_canEnter, 1206, 904, 905, 42)), (61, (1, 1, q_m_X6_isRobot, 1340, 864, 865, 42)), (77, (1, 2, q_m_X0_between, 1341, 1196, 1197, 48)), (80, (1, 4, q_m_X0_isBetter, 1342, 1344, 34, 48)), (101, (1, 0, q_m_X0_renewTable, 1231, 1233, 26, 48)), (104, (1, 0, q_m_X0_openCells, 1235, 1237, 27, 48)), (124, (1, 0, q_m_X0_fillTable, 1239, 1241, 28, 48)), (127, (1, 1, q_m_X0_nearOfNeighbors, 1243, 1245, 29, 48)), (133, (0, 3, q_m_X0_noteRound, 1248, 1249, 0, 48))]
  | 1 => [(17, (2, 0, q_m_X6_init, 223, 85, 0, 42)), (22, (1, 1, q_m_X6_copyFrom, 784, 785, 786, 42))]
  | 2 => [(19, (1, 0, q_m_X2_isFull, 745, 717, 718, 47)), (29, (1, 1, q_m_X2_canEndRow, 758, 760, 1, 47)), (33, (1, 1, q_m_X2_endRow, 762, 764, 2, 47)), (37, (0, 1, q_m_X2_kindOf, 766, 767, 0, 47)), (41, (1, 1, q_m_X2_canGrowRow, 771, 773, 3, 47))]
  | 4 => [(29, (1, 2, q_m_X4_prepare, 1014, 1016, 12, 49)), (33, (0, 2, q_m_J7_fill_53178, 1043, 1044, 0, 56)), (39, (1, 0, q_m_X4_horizon, 1038, 1040, 14, 49)), (58, (1, 2, q_m_X6_neighbor, 1046, 1047, 1048, 42)), (62, (1, 3, q_m_X4_canStep, 1054, 1056, 16, 49)), (66, (1, 2, q_m_X4_canEndAt, 1066, 1068, 19, 49)), (69, (1, 1, q_m_X4_tracePath, 1070, 1072, 20, 49)), (76, (1, 2, q_m_X4_cellsAfter, 1290, 1292, 30, 49)), (80, (1, 1, q_m_X6_isCell, 1019, 872, 873, 42)), (84, (1, 3, q_m_X4_canComeTo, 1294, 1296, 31, 49)), (88, (1, 1, q_m_X6_isRobot, 1018, 864, 865, 42)), (91, (1, 1, q_m_X6_canEnter, 1020, 904, 905, 42)), (97, (0, 2, q_m_J7_fill_d0a16, 1021, 1022, 0, 56)), (100, (1, 1, q_m_X4_noteOther, 1024, 1026, 13, 49)), (104, (1, 1, q_m_X5_cellAhead, 1028, 920, 921, 43)), (108, (1, 1, q_m_X5_lastTickIn, 1029, 1030, 1031, 43)), (122, (1, 2, q_m_X4_isTaken, 1058, 1060, 17, 49)), (125, (1, 3, q_m_X4_changesPlaces, 1062, 1064, 18, 49))]
  | 5 => [(40, (1, 1, q_m_X5_cellAhead, 919, 920, 921, 43)), (44, (1, 0, q_m_X5_lastCell, 1033, 1034, 1035, 43))]
  | 6 => [(32, (2, 0, q_m_X5_init, 91, 92, 0, 43)), (39, (2, 0, q_m_X3_init, 136, 137, 0, 44)), (61, (1, 1, q_m_X5_copyFrom, 788, 789, 790, 43)), (65, (1, 1, q_m_X3_copyFrom, 793, 794, 795, 44)), (79, (0, 1, q_m_X2_kindOf, 803, 767, 0, 47)), (83, (1, 0, q_m_X6_cellCount, 875, 805, 806, 42)), (87, (1, 1, q_m_X6_isCell, 871, 872, 873, 42)), (91, (1, 1, q_m_X6_columnOf, 1050, 1052, 15, 42)), (95, (1, 2, q_m_X6_neighbor, 1163, 1047, 1048, 42)), (99, (1, 1, q_m_X6_canEnter, 1164, 904, 905, 42)), (102, (1, 2, q_m_X5_begin, 927, 928, 929, 43)), (106, (1, 1, q_m_X6_isRobot, 863, 864, 865, 42)), (109, (1, 4, q_m_X3_begin, 977, 978, 979, 44)), (115, (1, 1, q_m_X6_isOrder, 851, 852, 853, 42)), (121, (1, 1, q_m_X5_cellAhead, 1158, 920, 921, 43)), (124, (1, 1, q_m_X5_isEverIn, 915, 916, 917, 43)), (130, (1, 1, q_m_X6_robotWith, 859, 860, 861, 42)), (133, (1, 1, q_m_X6_stateOf, 855, 856, 857, 42)), (136, (1, 1, q_m_X6_waitingBefore, 1312, 1314, 32, 42)), (139, (1, 2, q_m_X6_isRankedBefore, 1316, 1318, 33, 42)), (146, (1, 0, q_m_X3_linesLeft, 1121, 996, 997, 44)), (149, (1, 1, q_m_X6_isLoaded, 1086, 1087, 1088, 42)), (161, (1, 0, q_m_X5_goOn, 1109, 1110, 1111, 43)), (164, (1, 1, q_m_X6_endPlan, 1113, 1115, 23, 42)), (171, (1, 1, q_m_X5_charge, 1122, 1123, 1124, 43)), (175, (1, 1, q_m_X3_isNextLine, 1117, 1118, 1119, 44))]
  | 7 => [(11, (2, 0, q_m_X6_init, 84, 85, 0, 42)), (21, (2, 0, q_m_X1_init, 217, 218, 0, 46)), (28, (2, 0, q_m_X2_init, 237, 238, 0, 47)), (35, (2, 1, q_m_X0_init, 262, 263, 0, 48)), (44, (2, 1, q_m_X4_init, 299, 300, 0, 49)), (63, (1, 0, q_m_X2_isFull, 716, 717, 718, 47)), (70, (1, 1, q_m_X2_take, 741, 742, 743, 47)), (77, (1, 0, q_m_X2_findFault, 754, 755, 756, 47)), (84, (1, 1, q_m_X1_keep, 780, 781, 782, 46)), (87, (1, 1, q_m_X6_rebuild, 799, 800, 801, 42)), (91, (1, 0, q_m_X6_cellCount, 804, 805, 806, 42)), (94, (1, 2, q_m_X7_refusesAdd, 898, 900, 6, 41)), (101, (1, 2, q_m_X6_putRobot, 923, 924, 925, 42)), (105, (1, 1, q_m_X6_isCell, 902, 872, 873, 42)), (109, (1, 2, q_m_X7_refuse, 820, 822, 5, 41)), (115, (1, 1, q_m_X6_canEnter, 903, 904, 905, 42)), (118, (1, 2, q_m_X7_refusesRobotsCell, 907, 909, 7, 41)), (121, (1, 1, q_m_X7_refusesTakeOff, 1426, 1428, 35, 41)), (124, (1, 1, q_m_X6_dropRobot, 1430, 1431, 1432, 42)), (128, (1, 1, q_m_X6_isRobot, 992, 864, 865, 42)), (140, (1, 4, q_m_X7_refusesOrder, 961, 963, 8, 41)), (144, (1, 4, q_m_X6_putOrder, 973, 974, 975, 42)), (148, (1, 1, q_m_X6_isCellOrNone, 965, 966, 967, 42)), (154, (1, 1, q_m_X7_refusesLine, 969, 971, 9, 41)), (161, (1, 2, q_m_X7_refusesAssign, 988, 990, 10, 41)), (168, (1, 0, q_m_X3_linesLeft, 995, 996, 997, 44)), (173, (1, 1, q_m_X6_isOrder, 993, 852, 853, 42)), (176, (1, 1, q_m_X6_stateOf, 994, 856, 857, 42)), (180, (1, 1, q_m_X7_refusesRelease, 1441, 1443, 36, 41)), (183, (1, 1, q_m_X6_freeRobot, 1445, 1446, 1447, 42)), (186, (1, 1, q_m_X7_refusesClose, 1456, 1458, 37, 41)), (193, (1, 0, q_m_X6_closedCount, 867, 868, 869, 42)), (196, (1, 1, q_m_X7_refusesOpen, 1467, 1469, 38, 41)), (199, (1, 2, q_m_X7_refusesSet, 816, 818, 4, 41)), (211, (1, 2, q_m_X7_refusesGoal, 1006, 1008, 11, 41)), (214, (1, 2, q_m_X4_findFirst, 1010, 1011, 1012, 49)), (217, (1, 2, q_m_X7_refusesFound, 1074, 1076, 21, 41)), (223, (1, 1, q_m_X6_stepCost, 1082, 1083, 1084, 42)), (226, (1, 3, q_m_X5_follow, 1090, 1091, 1092, 43)), (236, (1, 1, q_m_X4_stepsOfPath, 1078, 1079, 1080, 49)), (242, (1, 1, q_m_X7_refusesCancel, 1478, 1480, 39, 41)), (245, (1, 1, q_m_X7_refusesPass, 1101, 1103, 22, 41)), (248, (1, 0, q_m_X6_tick, 1105, 1106, 1107, 42)), (254, (1, 2, q_m_X6_robotThere, 1154, 1155, 1156, 42)), (257, (1, 1, q_m_X6_enteredNeighbors, 1159, 1160, 1161, 42)), (260, (0, 1, q_m_X7_signOf, 1387, 1388, 0, 41)), (264, (1, 2, q_m_X0_between, 1195, 1196, 1197, 48)), (270, (1, 2, q_m_X0_betweenByTable, 1227, 1228, 1229, 48)), (273, (1, 1, q_m_X0_countFrom, 1257, 1258, 1259, 48)), (276, (1, 1, q_m_X0_farthestFrom, 1265, 1266, 1267, 48)), (279, (1, 0, q_m_X5_lastCell, 1215, 1034, 1035, 43)), (282, (1, 1, q_m_X6_isLoaded, 1216, 1087, 1088, 42)), (288, (1, 1, q_m_X5_cellAhead, 1149, 920, 921, 43)), (291, (1, 2, q_m_X4_findTickByTick, 1286, 1287, 1288, 49)), (303, (1, 1, q_m_X6_robotWith, 1324, 860, 861, 42)), (312, (1, 1, q_m_X6_ordersIn, 847, 848, 849, 42)), (315, (1, 1, q_m_X6_waitingOrder, 1308, 1309, 1310, 42)), (318, (1, 1, q_m_X0_bestRobotFor, 1336, 1337, 1338, 48)), (328, (1, 0, q_m_X6_loadedCount, 1368, 1369, 1370, 42)), (331, (1, 0, q_m_X6_latenessSum, 1376, 1377, 1378, 42)), (343, (1, 0, q_m_X6_stepSum, 876, 877, 878, 42)), (346, (1, 0, q_m_X6_pickedSum, 880, 881, 882, 42)), (349, (1, 0, q_m_X6_batterySum, 884, 885, 886, 42)), (355, (1, 1, q_m_X1_giveBack, 1403, 1404, 1405, 46)), (361, (1, 2, q_m_X6_lowestRobotEverIn, 911, 912, 913, 42))]
  | 8 => [(1, (2, 1, q_m_J5_init_d00df, 370, 371, 0, 50)), (137, (2, 1, q_m_J0_init_81219, 526, 527, 0, 52))]
  | 9 => [(8, (1, 1, q_m_X7_append, 712, 713, 714, 41)), (16, (1, 0, q_m_X7_layout, 750, 751, 752, 41)), (22, (1, 0, q_m_J0_length_8abf5, 683, 473, 474, 52)), (27, (1, 1, q_m_J0_charAt_5068e, 684, 685, 686, 52)), (31, (0, 2, q_m_L_append, 708, 709, 0, 40)), (36, (0, 1, q_m_L_layout, 746, 747, 0, 40)), (39, (1, 2, q_m_X7_add, 894, 895, 896, 41)), (45, (1, 1, q_m_X7_takeOff, 1422, 1423, 1424, 41)), (49, (1, 4, q_m_X7_order, 957, 958, 959, 41)), (53, (1, 2, q_m_X7_assign, 984, 985, 986, 41)), (56, (1, 1, q_m_X7_release, 1437, 1438, 1439, 41)), (59, (1, 1, q_m_X7_close, 1452, 1453, 1454, 41)), (62, (1, 1, q_m_X7_open, 1463, 1464, 1465, 41)), (65, (1, 2, q_m_X7_set, 812, 813, 814, 41)), (68, (1, 2, q_m_X7_plan, 1002, 1003, 1004, 41)), (71, (1, 1, q_m_X7_cancel, 1474, 1475, 1476, 41)), (74, (1, 1, q_m_X7_pass, 1097, 1098, 1099, 41)), (77, (1, 2, q_m_X7_distance, 1191, 1192, 1193, 41)), (84, (1, 2, q_m_X7_distanceAgain, 1223, 1224, 1225, 41)), (87, (1, 2, q_m_X7_arrival, 1275, 1276, 1277, 41)), (90, (1, 2, q_m_X7_arrivalAgain, 1282, 1283, 1284, 41)), (93, (1, 1, q_m_X7_suited, 1332, 1333, 1334, 41)), (99, (1, 1, q_m_X7_waiting, 1304, 1305, 1306, 41)), (102, (1, 1, q_m_X7_reason, 935, 936, 937, 41)), (106, (1, 0, q_m_X7_undo, 1399, 1400, 1401, 41)), (109, (1, 1, q_m_X7_account, 843, 844, 845, 41)), (112, (2, 0, q_m_X7_init, 76, 77, 0, 41)), (113, (0, 2, q_m_L_cell, 360, 361, 0, 40)), (121, (2, 0, q_m_J4_init_da8c8, 367, 368, 0, 51)), (122, (1, 1, q_m_J4_append_15ec4, 397, 398, 399, 51)), (135, (1, 0, q_m_J4_toString_0e30d, 520, 521, 522, 51)), (139, (0, 2, q_m_L_layout_, 680, 681, 0, 40)), (142, (0, 3, q_m_L_set, 808, 809, 0, 40)), (145, (0, 1, q_m_L_cells, 888, 889, 0, 40)), (148, (0, 3, q_m_L_add, 891, 892, 0, 40)), (150, (0, 2, q_m_L_reason, 931, 932, 0, 40)), (153, (0, 5, q_m_L_order, 954, 955, 0, 40)), (156, (0, 3, q_m_L_assign, 981, 982, 0, 40)), (158, (0, 3, q_m_L_plan, 999, 1000, 0, 40)), (160, (0, 2, q_m_L_pass, 1094, 1095, 0, 40)), (163, (0, 1, q_m_L_drawn, 71, 72, 0, 40)), (167, (0, 1, q_m_L_plans, 1127, 1128, 0, 40)), (171, (0, 2, q_m_L_distances, 1217, 1218, 0, 40)), (175, (0, 2, q_m_L_arrivals, 1269, 1270, 0, 40)), (178, (0, 1, q_m_L_orders, 1298, 1299, 0, 40)), (181, (0, 1, q_m_L_accounts, 1346, 1347, 0, 40)), (184, (0, 1, q_m_L_letters, 1380, 1381, 0, 40)), (187, (0, 1, q_m_L_goesOn, 1392, 1393, 0, 40)), (190, (0, 2, q_m_L_undone, 1407, 1408, 0, 40)), (193, (1, 2, q_m_X7_planned, 1130, 1131, 1132, 41)), (196, (1, 2, q_m_X7_cell, 1150, 1151, 1152, 41)), (198, (1, 2, q_m_X7_reserved, 1165, 1166, 1167, 41)), (201, (0, 3, q_m_L_distance, 1169, 1170, 0, 40)), (203, (1, 2, q_m_X7_robotOf, 1211, 1212, 1213, 41)), (206, (0, 3, q_m_L_distanceAgain, 1220, 1221, 0, 40)), (213, (1, 1, q_m_X7_reach, 1253, 1254, 1255, 41)), (216, (1, 1, q_m_X7_farthest, 1261, 1262, 1263, 41)), (219, (0, 3, q_m_L_arrival, 1272, 1273, 0, 40)), (221, (0, 3, q_m_L_arrivalAgain, 1279, 1280, 0, 40)), (223, (0, 2, q_m_L_waiting, 1301, 1302, 0, 40)), (225, (1, 2, q_m_X7_orderOf, 1320, 1321, 1322, 41)), (228, (1, 2, q_m_X7_line, 1325, 1326, 1327, 41)), (231, (0, 2, q_m_L_suited, 1329, 1330, 0, 40)), (233, (1, 0, q_m_X7_loaded, 1349, 1350, 1351, 41)), (237, (1, 0, q_m_X7_lateness, 1372, 1373, 1374, 41)), (241, (1, 1, q_m_X7_letter, 1383, 1384, 1385, 41)), (249, (0, 1, q_m_L_undo, 1396, 1397, 0, 40)), (263, (0, 1, q_m_L_sum, 1410, 1411, 0, 40)), (267, (0, 2, q_m_L_takeOff, 1419, 1420, 0, 40)), (269, (0, 2, q_m_L_release, 1434, 1435, 0, 40)), (271, (0, 2, q_m_L_close, 1449, 1450, 0, 40)), (273, (0, 2, q_m_L_open, 1460, 1461, 0, 40)), (275, (0, 2, q_m_L_cancel, 1471, 1472, 0, 40))]
  | 10 => [(339, (0, 3, q_m_J7_copyOfRangeByte_39247, 550, 551, 0, 56)), (343, (0, 2, q_m_J7_checkLength_df160, 553, 554, 0, 56))]
  | 12 => [(54, (0, 3, q_m_J7_copyOfRange_39247, 547, 548, 0, 56)), (335, (1, 0, q_m_J0_coder_7d493, 476, 477, 478, 52)), (489, (2, 2, q_m_J0_init_db425, 529, 530, 0, 52)), (492, (1, 0, q_m_J0_isLatin1_aae02, 688, 689, 690, 52)), (495, (0, 2, q_m_J1_charAt_3b067, 692, 693, 0, 58)), (1059, (0, 3, q_m_J3_checkIndex_8e157, 698, 699, 0, 57))]
  | 13 => [(9, (0, 2, q_m_J0_checkIndex_df160, 695, 696, 0, 52))]
  | 15 => [(32, (1, 0, q_m_J0_length_8abf5, 472, 473, 474, 52)), (40, (1, 0, q_m_J0_coder_7d493, 489, 477, 478, 52)), (108, (0, 2, q_m_J7_copyOf_9075b, 427, 428, 0, 56)), (114, (0, 3, q_m_J8_newLength_cabcc, 416, 417, 0, 54)), (399, (1, 3, q_m_J0_getBytes_840e7, 509, 510, 511, 52))]
  | _ => []
def q_cav : Nat → List (Nat × (Nat × Nat × MethodName × q_M × Nat × Nat × Nat × Nat × Nat × Nat))
  | 8 => [(29, (4, 1, yJ5_append_cf1ce, q_m_J5_append_cf1ce, 401, 402, 395, 50, 1483, 403)), (343, (4, 0, yJ5_length_8abf5, q_m_J5_length_8abf5, 544, 539, 395, 50, 540, 545))]
  | 12 => [(549, (3, 0, yJ5_length_8abf5, q_m_J4_length_8abf5, 538, 542, 541, 51, 540, 545)), (552, (3, 0, yJ5_getValue_6d5f1, q_m_J5_getValue_6d5f1, 533, 534, 536, 50, 535, 537)), (1047, (3, 0, yJ5_isLatin1_aae02, q_m_J5_isLatin1_aae02, 546, 442, 444, 50, 443, 445))]
  | 15 => [(100, (3, 1, yJ5_ensureCapacityInternal_d00df, q_m_J5_ensureCapacityInternal_d00df, 408, 410, 1511, 50, 1485, 411)), (104, (3, 1, yJ5_newCapacity_0f7a4, q_m_J5_newCapacity_0f7a4, 412, 414, 1512, 50, 1486, 415)), (208, (3, 2, yJ5_putStringAt_47b60, q_m_J5_putStringAt_47b60, 481, 483, 1513, 50, 1487, 484)), (397, (3, 1, yJ5_inflateIfNeededFor_a7421, q_m_J5_inflateIfNeededFor_a7421, 485, 487, 1514, 50, 1488, 488))]
  | _ => []
def q_new : Nat → List (Nat × (Nat × Nat × Nat × Nat))
  | 1 => [(9, (6, 221, 83, 42))]
  | 6 => [(26, (5, 88, 90, 43)), (33, (3, 133, 135, 44))]
  | 7 => [(9, (6, 82, 83, 42)), (19, (1, 215, 216, 46)), (26, (2, 235, 236, 47)), (33, (0, 260, 261, 48)), (42, (4, 297, 298, 49))]
  | 8 => [(18, (9, 524, 525, 52))]
  | 9 => [(9, (7, 74, 75, 41)), (119, (8, 365, 366, 51))]
  | _ => []
def q_exc : Nat → List (Nat × (String × Nat × Nat × Nat))
  | 7 => [(67, ("java/lang/IllegalStateException", 69, 720, 65)), (81, ("java/lang/IllegalArgumentException", 83, 775, 62)), (98, ("java/lang/UnsupportedOperationException", 100, 828, 66)), (251, ("java/lang/IndexOutOfBoundsException", 253, 1134, 68)), (267, ("java/util/NoSuchElementException", 269, 939, 67)), (325, ("java/lang/ArithmeticException", 327, 1353, 70))]
  | _ => []
def q_hc : Nat → List (Nat × (String × Nat))
  | 9 => [(14, ("java/lang/IllegalStateException", 711)), (20, ("java/lang/IllegalArgumentException", 749)), (43, ("java/lang/UnsupportedOperationException", 811)), (80, ("java/lang/IndexOutOfBoundsException", 1172)), (82, ("java/util/NoSuchElementException", 934))]
  | _ => []
def q_cst : List (String × Nat) := [("java/lang/ArithmeticException", 1355), ("java/lang/IllegalArgumentException", 558), ("java/lang/IllegalStateException", 722), ("java/lang/IndexOutOfBoundsException", 1136), ("java/lang/UnsupportedOperationException", 830), ("java/util/NoSuchElementException", 941)]
def q_anw : Nat → List (Nat × (Nat × Nat × Nat))
  | 1 => [(9, (7, 221, 222))]
  | 6 => [(26, (5, 88, 89)), (33, (6, 133, 134))]
  | _ => []
def q_acp : Nat → List (Nat × Nat)
  | 0 => [(137, 1251)]
  | 3 => [(28, 797)]
  | 5 => [(34, 792)]
  | 6 => [(46, 166)]
  | 10 => [(150, 440)]
  | 12 => [(212, 513)]
  | _ => []
def q_mth : Nat → List (Nat × (Nat × Nat × Nat × Nat × Nat))
  | 1 => [(29, (1, 798, 438, 55, 439))]
  | 4 => [(111, (0, 1037, 420, 55, 421)), (119, (1, 1042, 438, 55, 439))]
  | 5 => [(48, (1, 1126, 438, 55, 439))]
  | 9 => [(208, (0, 1252, 420, 55, 421)), (246, (1, 1395, 438, 55, 439))]
  | 10 => [(304, (1, 437, 438, 55, 439))]
  | 16 => [(194, (0, 419, 420, 55, 421))]
  | _ => []
def q_obi : Nat → List (Nat × Nat)
  | 0 => [(3, 265)]
  | 1 => [(3, 220)]
  | 2 => [(3, 240)]
  | 3 => [(3, 139)]
  | 4 => [(3, 302)]
  | 5 => [(3, 94)]
  | 6 => [(3, 87)]
  | 7 => [(3, 79)]
  | 12 => [(1, 532)]
  | 15 => [(3, 373)]
  | _ => []
def q_mna : Nat → List (Nat × (Nat × Nat))
  | 0 => [(22, (266, 267))]
  | _ => []
def q_ldl : Nat → List (Nat × (Int64 × Nat))
  | 0 => [(131, (-1, 1247))]
  | 9 => [(251, (7, 1413)), (253, (31, 1414)), (255, (37, 1415)), (257, (41, 1416)), (259, (43, 1417)), (261, (47, 1418))]
  | _ => []
def q_lst : Nat → List (Nat × (Nat × Nat))
  | 9 => [(117, (0, 364)), (125, (1, 515)), (127, (2, 516)), (129, (3, 517)), (131, (4, 518)), (133, (5, 519)), (244, (6, 1391)), (277, (7, 1482))]
  | _ => []
def q_ldi : Nat → List (Nat × (Int32 × Nat))
  | 9 => [(7, (40503, 363))]
  | 15 => [(39, (2147483647, 426))]
  | 16 => [(200, (2147483639, 422))]
  | _ => []
def q_cln : Nat → List (Nat × Nat)
  | 10 => [(310, 430)]
  | _ => []
def q_ckc : Nat → List (Nat × Nat)
  | 10 => [(311, 436)]
  | _ => []
/-- the string constants: their places in the law, their text, their bytes -/
def q_six : Nat → Nat
  | 0 => 117
  | 1 => 125
  | 2 => 127
  | 3 => 129
  | 4 => 131
  | 5 => 133
  | 6 => 244
  | _ => 277
def q_stx : Nat → String
  | 0 => ""
  | 1 => "/"
  | 2 => "#"
  | 3 => "+"
  | 4 => "@"
  | 5 => "."
  | 6 => ".#+@"
  | _ => "..#/+@."
def q_sby : List (List Int32) := [[], [47], [35], [43], [64], [46], [46, 35, 43, 64], [46, 46, 35, 47, 43, 64, 46]]
def q_sle : List Nat := [0, 1, 1, 1, 1, 1, 4, 7]
def q_stf : Nat → List (Nat × (Nat × Nat))
  | 2 => [(44, (3, 769))]
  | 6 => [(43, (0, 164))]
  | 7 => [(205, (1, 824)), (208, (2, 826)), (364, (3, 1390))]
  | 12 => [(38, (4, 480)), (1053, (5, 458))]
  | 15 => [(18, (4, 374))]
  | _ => []
def q_lk {α : Type} : List (Nat × α) → Nat → Option α
  | [], _ => none
  | (a, b) :: t, k => bif Nat.beq a k then some b else q_lk t k
theorem q_lk_mem {α : Type} {k : Nat} {v : α} : ∀ {l : List (Nat × α)}, q_lk l k = some v → (k, v) ∈ l
  | [], h => by cases h
  | (a, b) :: t, h => by
    unfold q_lk at h
    cases e : Nat.beq a k with
    | true =>
      rw [e] at h
      have e2 : a = k := Nat.eq_of_beq_eq_true e
      have e3 : b = v := Option.some.inj h
      subst e2; subst e3
      exact List.mem_cons_self
    | false =>
      rw [e] at h
      exact List.mem_cons_of_mem _ (q_lk_mem h)
def q_cw (M : q_M) : Cond := match M.2.2.2.2.2.2.2 with | [] => Cond.code M.1 M.2.1 M.2.2.1 M.2.2.2.1 | hh => Cond.codeWith M.1 M.2.1 M.2.2.1 M.2.2.2.1 hh
/-- what the tables say of a method: its word, a plain name, its owner -/
def q_mok (M : q_M) : Prop := lw_tbl[M.2.2.2.2.2.2.1]? = some (q_cw M) ∧ plainName M.1.cls = true ∧ M.1.cls = q_nm M.2.2.2.2.1 ∧ (M.1.cls ≠ "java/lang/invoke/MethodHandle" ∧ M.1.cls ≠ "java/lang/invoke/VarHandle")
theorem q_fl_ok : ∀ o, o < 17 → ∀ x ∈ q_fl o, lw_tbl[x.2.2.2]? = some (.fieldLink (q_nm o) x.1 (q_T x.2.1 x.2.2.1).1 (q_T x.2.1 x.2.2.1).2.1 (q_T x.2.1 x.2.2.1).2.2.1) ∧ x.2.1 < 10 ∧ x.2.2.1 < q_N x.2.1 ∧ (¬ x.2.1 = 8 → (q_T x.2.1 x.2.2.1).1 = q_cnm x.2.1) := by decide +kernel
def q_calok (o : Nat) (x : Nat × Nat × Nat × q_M × Nat × Nat × Nat × Nat) : Prop :=
  (parseMethodDescriptor x.2.2.2.1.1.desc).map (fun d => d.parameters.length) = some x.2.2.1 ∧ lw_tbl[x.2.2.2.2.1]? = some (.methodLink (q_nm o) x.1 x.2.2.2.1.1) ∧ lw_tbl[x.2.2.2.2.2.2.2]? = some (.initialized x.2.2.2.1.1.cls) ∧
  lw_tbl[x.2.2.2.2.2.1]? = some (bif Nat.beq x.2.1 0 then .static x.2.2.2.1.1 else .instanceMethod x.2.2.2.1.1) ∧ (x.2.1 = 1 → lw_tbl[x.2.2.2.2.2.2.1]? = some (.selects x.2.2.2.1.1.cls x.2.2.2.1.1 x.2.2.2.1.1)) ∧ (x.2.1 = 2 → x.2.2.2.1.1.name = "<init>") ∧ (¬ x.2.1 = 0 → x.2.2.2.1.2.2.2.2.2.2.2 = [])
theorem q_cal_ok_0 : ∀ x ∈ q_cal 0, q_calok 0 x := by unfold q_calok; decide +kernel
theorem q_cal_ok_1 : ∀ x ∈ q_cal 1, q_calok 1 x := by unfold q_calok; decide +kernel
theorem q_cal_ok_2 : ∀ x ∈ q_cal 2, q_calok 2 x := by unfold q_calok; decide +kernel
theorem q_cal_ok_4 : ∀ x ∈ q_cal 4, q_calok 4 x := by unfold q_calok; decide +kernel
theorem q_cal_ok_5 : ∀ x ∈ q_cal 5, q_calok 5 x := by unfold q_calok; decide +kernel
theorem q_cal_ok_6 : ∀ x ∈ q_cal 6, q_calok 6 x := by unfold q_calok; decide +kernel
theorem q_cal_ok_7 : ∀ x ∈ q_cal 7, q_calok 7 x := by unfold q_calok; decide +kernel
theorem q_cal_ok_8 : ∀ x ∈ q_cal 8, q_calok 8 x := by unfold q_calok; decide +kernel
theorem q_cal_ok_9 : ∀ x ∈ q_cal 9, q_calok 9 x := by unfold q_calok; decide +kernel
theorem q_cal_ok_10 : ∀ x ∈ q_cal 10, q_calok 10 x := by unfold q_calok; decide +kernel
theorem q_cal_ok_12 : ∀ x ∈ q_cal 12, q_calok 12 x := by unfold q_calok; decide +kernel
theorem q_cal_ok_13 : ∀ x ∈ q_cal 13, q_calok 13 x := by unfold q_calok; decide +kernel
theorem q_cal_ok_15 : ∀ x ∈ q_cal 15, q_calok 15 x := by unfold q_calok; decide +kernel
theorem q_cal_ok : ∀ o, ∀ x ∈ q_cal o, q_calok o x := by
  intro o
  match o with
  | 0 => exact q_cal_ok_0
  | 1 => exact q_cal_ok_1
  | 2 => exact q_cal_ok_2
  | 3 => exact fun _ h => absurd h List.not_mem_nil
  | 4 => exact q_cal_ok_4
  | 5 => exact q_cal_ok_5
  | 6 => exact q_cal_ok_6
  | 7 => exact q_cal_ok_7
  | 8 => exact q_cal_ok_8
  | 9 => exact q_cal_ok_9
  | 10 => exact q_cal_ok_10
  | 11 => exact fun _ h => absurd h List.not_mem_nil
  | 12 => exact q_cal_ok_12
  | 13 => exact q_cal_ok_13
  | 14 => exact fun _ h => absurd h List.not_mem_nil
  | 15 => exact q_cal_ok_15
  | _ + 16 => exact fun _ h => absurd h List.not_mem_nil
set_option maxRecDepth 100000 in
theorem q_k_J0_coder_7d493 : q_mok q_m_J0_coder_7d493 := ⟨rfl, by decide +kernel, rfl, by decide +kernel, by decide +kernel⟩
set_option maxRecDepth 100000 in
theorem q_k_J0_isLatin1_aae02 : q_mok q_m_J0_isLatin1_aae02 := ⟨rfl, by decide +kernel, rfl, by decide +kernel, by decide +kernel⟩
set_option maxRecDepth 100000 in
theorem q_k_J3_checkIndex_8e157 : q_mok q_m_J3_checkIndex_8e157 := ⟨rfl, by decide +kernel, rfl, by decide +kernel, by decide +kernel⟩
set_option maxRecDepth 100000 in
theorem q_k_J5_getValue_6d5f1 : q_mok q_m_J5_getValue_6d5f1 := ⟨rfl, by decide +kernel, rfl, by decide +kernel, by decide +kernel⟩
set_option maxRecDepth 100000 in
theorem q_k_J5_isLatin1_aae02 : q_mok q_m_J5_isLatin1_aae02 := ⟨rfl, by decide +kernel, rfl, by decide +kernel, by decide +kernel⟩
set_option maxRecDepth 100000 in
theorem q_k_J5_length_8abf5 : q_mok q_m_J5_length_8abf5 := ⟨rfl, by decide +kernel, rfl, by decide +kernel, by decide +kernel⟩
set_option maxRecDepth 100000 in
theorem q_k_J7_checkLength_df160 : q_mok q_m_J7_checkLength_df160 := ⟨rfl, by decide +kernel, rfl, by decide +kernel, by decide +kernel⟩
set_option maxRecDepth 100000 in
theorem q_k_J7_fill_53178 : q_mok q_m_J7_fill_53178 := ⟨rfl, by decide +kernel, rfl, by decide +kernel, by decide +kernel⟩
set_option maxRecDepth 100000 in
theorem q_k_J7_fill_d0a16 : q_mok q_m_J7_fill_d0a16 := ⟨rfl, by decide +kernel, rfl, by decide +kernel, by decide +kernel⟩
set_option maxRecDepth 100000 in
theorem q_k_L_cell : q_mok q_m_L_cell := ⟨rfl, by decide +kernel, rfl, by decide +kernel, by decide +kernel⟩
set_option maxRecDepth 100000 in
theorem q_k_X0_isBetter : q_mok q_m_X0_isBetter := ⟨rfl, by decide +kernel, rfl, by decide +kernel, by decide +kernel⟩
set_option maxRecDepth 100000 in
theorem q_k_X0_noteRound : q_mok q_m_X0_noteRound := ⟨rfl, by decide +kernel, rfl, by decide +kernel, by decide +kernel⟩
set_option maxRecDepth 100000 in
theorem q_k_X2_canEndRow : q_mok q_m_X2_canEndRow := ⟨rfl, by decide +kernel, rfl, by decide +kernel, by decide +kernel⟩
set_option maxRecDepth 100000 in
theorem q_k_X2_canGrowRow : q_mok q_m_X2_canGrowRow := ⟨rfl, by decide +kernel, rfl, by decide +kernel, by decide +kernel⟩
set_option maxRecDepth 100000 in
theorem q_k_X2_endRow : q_mok q_m_X2_endRow := ⟨rfl, by decide +kernel, rfl, by decide +kernel, by decide +kernel⟩
set_option maxRecDepth 100000 in
theorem q_k_X2_isFull : q_mok q_m_X2_isFull := ⟨rfl, by decide +kernel, rfl, by decide +kernel, by decide +kernel⟩
set_option maxRecDepth 100000 in
theorem q_k_X2_kindOf : q_mok q_m_X2_kindOf := ⟨rfl, by decide +kernel, rfl, by decide +kernel, by decide +kernel⟩
set_option maxRecDepth 100000 in
theorem q_k_X3_begin : q_mok q_m_X3_begin := ⟨rfl, by decide +kernel, rfl, by decide +kernel, by decide +kernel⟩
set_option maxRecDepth 100000 in
theorem q_k_X3_isNextLine : q_mok q_m_X3_isNextLine := ⟨rfl, by decide +kernel, rfl, by decide +kernel, by decide +kernel⟩
set_option maxRecDepth 100000 in
theorem q_k_X3_linesLeft : q_mok q_m_X3_linesLeft := ⟨rfl, by decide +kernel, rfl, by decide +kernel, by decide +kernel⟩
set_option maxRecDepth 100000 in
theorem q_k_X4_canEndAt : q_mok q_m_X4_canEndAt := ⟨rfl, by decide +kernel, rfl, by decide +kernel, by decide +kernel⟩
set_option maxRecDepth 100000 in
theorem q_k_X4_isTaken : q_mok q_m_X4_isTaken := ⟨rfl, by decide +kernel, rfl, by decide +kernel, by decide +kernel⟩
set_option maxRecDepth 100000 in
theorem q_k_X4_stepsOfPath : q_mok q_m_X4_stepsOfPath := ⟨rfl, by decide +kernel, rfl, by decide +kernel, by decide +kernel⟩
set_option maxRecDepth 100000 in
theorem q_k_X4_tracePath : q_mok q_m_X4_tracePath := ⟨rfl, by decide +kernel, rfl, by decide +kernel, by decide +kernel⟩
set_option maxRecDepth 100000 in
theorem q_k_X5_begin : q_mok q_m_X5_begin := ⟨rfl, by decide +kernel, rfl, by decide +kernel, by decide +kernel⟩
set_option maxRecDepth 100000 in
theorem q_k_X5_cellAhead : q_mok q_m_X5_cellAhead := ⟨rfl, by decide +kernel, rfl, by decide +kernel, by decide +kernel⟩
set_option maxRecDepth 100000 in
theorem q_k_X5_follow : q_mok q_m_X5_follow := ⟨rfl, by decide +kernel, rfl, by decide +kernel, by decide +kernel⟩
set_option maxRecDepth 100000 in
theorem q_k_X6_cellCount : q_mok q_m_X6_cellCount := ⟨rfl, by decide +kernel, rfl, by decide +kernel, by decide +kernel⟩
set_option maxRecDepth 100000 in
theorem q_k_X6_columnOf : q_mok q_m_X6_columnOf := ⟨rfl, by decide +kernel, rfl, by decide +kernel, by decide +kernel⟩
set_option maxRecDepth 100000 in
theorem q_k_X6_isOrder : q_mok q_m_X6_isOrder := ⟨rfl, by decide +kernel, rfl, by decide +kernel, by decide +kernel⟩
set_option maxRecDepth 100000 in
theorem q_k_X6_isRobot : q_mok q_m_X6_isRobot := ⟨rfl, by decide +kernel, rfl, by decide +kernel, by decide +kernel⟩
set_option maxRecDepth 100000 in
theorem q_k_X7_refuse : q_mok q_m_X7_refuse := ⟨rfl, by decide +kernel, rfl, by decide +kernel, by decide +kernel⟩
set_option maxRecDepth 100000 in
theorem q_k_X7_signOf : q_mok q_m_X7_signOf := ⟨rfl, by decide +kernel, rfl, by decide +kernel, by decide +kernel⟩
set_option maxRecDepth 100000 in
theorem q_k_J0_checkIndex_df160 : q_mok q_m_J0_checkIndex_df160 := ⟨rfl, by decide +kernel, rfl, by decide +kernel, by decide +kernel⟩
set_option maxRecDepth 100000 in
theorem q_k_J0_getBytes_840e7 : q_mok q_m_J0_getBytes_840e7 := ⟨rfl, by decide +kernel, rfl, by decide +kernel, by decide +kernel⟩
set_option maxRecDepth 100000 in
theorem q_k_J0_length_8abf5 : q_mok q_m_J0_length_8abf5 := ⟨rfl, by decide +kernel, rfl, by decide +kernel, by decide +kernel⟩
set_option maxRecDepth 100000 in
theorem q_k_J4_length_8abf5 : q_mok q_m_J4_length_8abf5 := ⟨rfl, by decide +kernel, rfl, by decide +kernel, by decide +kernel⟩
set_option maxRecDepth 100000 in
theorem q_k_J5_inflateIfNeededFor_a7421 : q_mok q_m_J5_inflateIfNeededFor_a7421 := ⟨rfl, by decide +kernel, rfl, by decide +kernel, by decide +kernel⟩
set_option maxRecDepth 100000 in
theorem q_k_J5_init_d00df : q_mok q_m_J5_init_d00df := ⟨rfl, by decide +kernel, rfl, by decide +kernel, by decide +kernel⟩
set_option maxRecDepth 100000 in
theorem q_k_J7_copyOfRangeByte_39247 : q_mok q_m_J7_copyOfRangeByte_39247 := ⟨rfl, by decide +kernel, rfl, by decide +kernel, by decide +kernel⟩
set_option maxRecDepth 100000 in
theorem q_k_J7_copyOf_9075b : q_mok q_m_J7_copyOf_9075b := ⟨rfl, by decide +kernel, rfl, by decide +kernel, by decide +kernel⟩
set_option maxRecDepth 100000 in
theorem q_k_J8_newLength_cabcc : q_mok q_m_J8_newLength_cabcc := ⟨rfl, by decide +kernel, rfl, by decide +kernel, by decide +kernel⟩
set_option maxRecDepth 100000 in
theorem q_k_X0_init : q_mok q_m_X0_init := ⟨rfl, by decide +kernel, rfl, by decide +kernel, by decide +kernel⟩
set_option maxRecDepth 100000 in
theorem q_k_X2_findFault : q_mok q_m_X2_findFault := ⟨rfl, by decide +kernel, rfl, by decide +kernel, by decide +kernel⟩
set_option maxRecDepth 100000 in
theorem q_k_X2_init : q_mok q_m_X2_init := ⟨rfl, by decide +kernel, rfl, by decide +kernel, by decide +kernel⟩
set_option maxRecDepth 100000 in
theorem q_k_X2_take : q_mok q_m_X2_take := ⟨rfl, by decide +kernel, rfl, by decide +kernel, by decide +kernel⟩
set_option maxRecDepth 100000 in
theorem q_k_X3_copyFrom : q_mok q_m_X3_copyFrom := ⟨rfl, by decide +kernel, rfl, by decide +kernel, by decide +kernel⟩
set_option maxRecDepth 100000 in
theorem q_k_X3_init : q_mok q_m_X3_init := ⟨rfl, by decide +kernel, rfl, by decide +kernel, by decide +kernel⟩
set_option maxRecDepth 100000 in
theorem q_k_X4_changesPlaces : q_mok q_m_X4_changesPlaces := ⟨rfl, by decide +kernel, rfl, by decide +kernel, by decide +kernel⟩
set_option maxRecDepth 100000 in
theorem q_k_X4_horizon : q_mok q_m_X4_horizon := ⟨rfl, by decide +kernel, rfl, by decide +kernel, by decide +kernel⟩
set_option maxRecDepth 100000 in
theorem q_k_X4_init : q_mok q_m_X4_init := ⟨rfl, by decide +kernel, rfl, by decide +kernel, by decide +kernel⟩
set_option maxRecDepth 100000 in
theorem q_k_X5_charge : q_mok q_m_X5_charge := ⟨rfl, by decide +kernel, rfl, by decide +kernel, by decide +kernel⟩
set_option maxRecDepth 100000 in
theorem q_k_X5_copyFrom : q_mok q_m_X5_copyFrom := ⟨rfl, by decide +kernel, rfl, by decide +kernel, by decide +kernel⟩
set_option maxRecDepth 100000 in
theorem q_k_X5_goOn : q_mok q_m_X5_goOn := ⟨rfl, by decide +kernel, rfl, by decide +kernel, by decide +kernel⟩
set_option maxRecDepth 100000 in
theorem q_k_X5_init : q_mok q_m_X5_init := ⟨rfl, by decide +kernel, rfl, by decide +kernel, by decide +kernel⟩
set_option maxRecDepth 100000 in
theorem q_k_X5_isEverIn : q_mok q_m_X5_isEverIn := ⟨rfl, by decide +kernel, rfl, by decide +kernel, by decide +kernel⟩
set_option maxRecDepth 100000 in
theorem q_k_X5_lastCell : q_mok q_m_X5_lastCell := ⟨rfl, by decide +kernel, rfl, by decide +kernel, by decide +kernel⟩
set_option maxRecDepth 100000 in
theorem q_k_X6_batterySum : q_mok q_m_X6_batterySum := ⟨rfl, by decide +kernel, rfl, by decide +kernel, by decide +kernel⟩
set_option maxRecDepth 100000 in
theorem q_k_X6_dropRobot : q_mok q_m_X6_dropRobot := ⟨rfl, by decide +kernel, rfl, by decide +kernel, by decide +kernel⟩
set_option maxRecDepth 100000 in
theorem q_k_X6_freeRobot : q_mok q_m_X6_freeRobot := ⟨rfl, by decide +kernel, rfl, by decide +kernel, by decide +kernel⟩
set_option maxRecDepth 100000 in
theorem q_k_X6_isCell : q_mok q_m_X6_isCell := ⟨rfl, by decide +kernel, rfl, by decide +kernel, by decide +kernel⟩
set_option maxRecDepth 100000 in
theorem q_k_X6_isLoaded : q_mok q_m_X6_isLoaded := ⟨rfl, by decide +kernel, rfl, by decide +kernel, by decide +kernel⟩
set_option maxRecDepth 100000 in
theorem q_k_X6_isRankedBefore : q_mok q_m_X6_isRankedBefore := ⟨rfl, by decide +kernel, rfl, by decide +kernel, by decide +kernel⟩
set_option maxRecDepth 100000 in
theorem q_k_X6_latenessSum : q_mok q_m_X6_latenessSum := ⟨rfl, by decide +kernel, rfl, by decide +kernel, by decide +kernel⟩
set_option maxRecDepth 100000 in
theorem q_k_X6_neighbor : q_mok q_m_X6_neighbor := ⟨rfl, by decide +kernel, rfl, by decide +kernel, by decide +kernel⟩
set_option maxRecDepth 100000 in
theorem q_k_X6_pickedSum : q_mok q_m_X6_pickedSum := ⟨rfl, by decide +kernel, rfl, by decide +kernel, by decide +kernel⟩
set_option maxRecDepth 100000 in
theorem q_k_X6_putOrder : q_mok q_m_X6_putOrder := ⟨rfl, by decide +kernel, rfl, by decide +kernel, by decide +kernel⟩
set_option maxRecDepth 100000 in
theorem q_k_X6_putRobot : q_mok q_m_X6_putRobot := ⟨rfl, by decide +kernel, rfl, by decide +kernel, by decide +kernel⟩
set_option maxRecDepth 100000 in
theorem q_k_X6_rebuild : q_mok q_m_X6_rebuild := ⟨rfl, by decide +kernel, rfl, by decide +kernel, by decide +kernel⟩
set_option maxRecDepth 100000 in
theorem q_k_X6_robotThere : q_mok q_m_X6_robotThere := ⟨rfl, by decide +kernel, rfl, by decide +kernel, by decide +kernel⟩
set_option maxRecDepth 100000 in
theorem q_k_X6_robotWith : q_mok q_m_X6_robotWith := ⟨rfl, by decide +kernel, rfl, by decide +kernel, by decide +kernel⟩
set_option maxRecDepth 100000 in
theorem q_k_X6_stepSum : q_mok q_m_X6_stepSum := ⟨rfl, by decide +kernel, rfl, by decide +kernel, by decide +kernel⟩
set_option maxRecDepth 100000 in
theorem q_k_X7_refusesPass : q_mok q_m_X7_refusesPass := ⟨rfl, by decide +kernel, rfl, by decide +kernel, by decide +kernel⟩
set_option maxRecDepth 100000 in
theorem q_k_X7_refusesRelease : q_mok q_m_X7_refusesRelease := ⟨rfl, by decide +kernel, rfl, by decide +kernel, by decide +kernel⟩
set_option maxRecDepth 100000 in
theorem q_k_X7_refusesSet : q_mok q_m_X7_refusesSet := ⟨rfl, by decide +kernel, rfl, by decide +kernel, by decide +kernel⟩
set_option maxRecDepth 100000 in
theorem q_k_X7_refusesTakeOff : q_mok q_m_X7_refusesTakeOff := ⟨rfl, by decide +kernel, rfl, by decide +kernel, by decide +kernel⟩
set_option maxRecDepth 100000 in
theorem q_k_J1_charAt_3b067 : q_mok q_m_J1_charAt_3b067 := ⟨rfl, by decide +kernel, rfl, by decide +kernel, by decide +kernel⟩
set_option maxRecDepth 100000 in
theorem q_k_J4_init_da8c8 : q_mok q_m_J4_init_da8c8 := ⟨rfl, by decide +kernel, rfl, by decide +kernel, by decide +kernel⟩
set_option maxRecDepth 100000 in
theorem q_k_J5_newCapacity_0f7a4 : q_mok q_m_J5_newCapacity_0f7a4 := ⟨rfl, by decide +kernel, rfl, by decide +kernel, by decide +kernel⟩
set_option maxRecDepth 100000 in
theorem q_k_J5_putStringAt_47b60 : q_mok q_m_J5_putStringAt_47b60 := ⟨rfl, by decide +kernel, rfl, by decide +kernel, by decide +kernel⟩
set_option maxRecDepth 100000 in
theorem q_k_J7_copyOfRange_39247 : q_mok q_m_J7_copyOfRange_39247 := ⟨rfl, by decide +kernel, rfl, by decide +kernel, by decide +kernel⟩
set_option maxRecDepth 100000 in
theorem q_k_X0_stepsTo : q_mok q_m_X0_stepsTo := ⟨rfl, by decide +kernel, rfl, by decide +kernel, by decide +kernel⟩
set_option maxRecDepth 100000 in
theorem q_k_X5_lastTickIn : q_mok q_m_X5_lastTickIn := ⟨rfl, by decide +kernel, rfl, by decide +kernel, by decide +kernel⟩
set_option maxRecDepth 100000 in
theorem q_k_X6_canEnter : q_mok q_m_X6_canEnter := ⟨rfl, by decide +kernel, rfl, by decide +kernel, by decide +kernel⟩
set_option maxRecDepth 100000 in
theorem q_k_X6_closedCount : q_mok q_m_X6_closedCount := ⟨rfl, by decide +kernel, rfl, by decide +kernel, by decide +kernel⟩
set_option maxRecDepth 100000 in
theorem q_k_X6_copyFrom : q_mok q_m_X6_copyFrom := ⟨rfl, by decide +kernel, rfl, by decide +kernel, by decide +kernel⟩
set_option maxRecDepth 100000 in
theorem q_k_X6_endPlan : q_mok q_m_X6_endPlan := ⟨rfl, by decide +kernel, rfl, by decide +kernel, by decide +kernel⟩
set_option maxRecDepth 100000 in
theorem q_k_X6_init : q_mok q_m_X6_init := ⟨rfl, by decide +kernel, rfl, by decide +kernel, by decide +kernel⟩
set_option maxRecDepth 100000 in
theorem q_k_X6_isCellOrNone : q_mok q_m_X6_isCellOrNone := ⟨rfl, by decide +kernel, rfl, by decide +kernel, by decide +kernel⟩
set_option maxRecDepth 100000 in
theorem q_k_X6_loadedCount : q_mok q_m_X6_loadedCount := ⟨rfl, by decide +kernel, rfl, by decide +kernel, by decide +kernel⟩
set_option maxRecDepth 100000 in
theorem q_k_X6_lowestRobotEverIn : q_mok q_m_X6_lowestRobotEverIn := ⟨rfl, by decide +kernel, rfl, by decide +kernel, by decide +kernel⟩
set_option maxRecDepth 100000 in
theorem q_k_X6_stateOf : q_mok q_m_X6_stateOf := ⟨rfl, by decide +kernel, rfl, by decide +kernel, by decide +kernel⟩
set_option maxRecDepth 100000 in
theorem q_k_X6_stepCost : q_mok q_m_X6_stepCost := ⟨rfl, by decide +kernel, rfl, by decide +kernel, by decide +kernel⟩
set_option maxRecDepth 100000 in
theorem q_k_X7_refusesLine : q_mok q_m_X7_refusesLine := ⟨rfl, by decide +kernel, rfl, by decide +kernel, by decide +kernel⟩
set_option maxRecDepth 100000 in
theorem q_k_X7_refusesOpen : q_mok q_m_X7_refusesOpen := ⟨rfl, by decide +kernel, rfl, by decide +kernel, by decide +kernel⟩
set_option maxRecDepth 100000 in
theorem q_k_J0_charAt_5068e : q_mok q_m_J0_charAt_5068e := ⟨rfl, by decide +kernel, rfl, by decide +kernel, by decide +kernel⟩
set_option maxRecDepth 100000 in
theorem q_k_J0_init_db425 : q_mok q_m_J0_init_db425 := ⟨rfl, by decide +kernel, rfl, by decide +kernel, by decide +kernel⟩
set_option maxRecDepth 100000 in
theorem q_k_J5_ensureCapacityInternal_d00df : q_mok q_m_J5_ensureCapacityInternal_d00df := ⟨rfl, by decide +kernel, rfl, by decide +kernel, by decide +kernel⟩
set_option maxRecDepth 100000 in
theorem q_k_X0_measureFrom : q_mok q_m_X0_measureFrom := ⟨rfl, by decide +kernel, rfl, by decide +kernel, by decide +kernel⟩
set_option maxRecDepth 100000 in
theorem q_k_X0_nearOfNeighbors : q_mok q_m_X0_nearOfNeighbors := ⟨rfl, by decide +kernel, rfl, by decide +kernel, by decide +kernel⟩
set_option maxRecDepth 100000 in
theorem q_k_X0_openCells : q_mok q_m_X0_openCells := ⟨rfl, by decide +kernel, rfl, by decide +kernel, by decide +kernel⟩
set_option maxRecDepth 100000 in
theorem q_k_X1_giveBack : q_mok q_m_X1_giveBack := ⟨rfl, by decide +kernel, rfl, by decide +kernel, by decide +kernel⟩
set_option maxRecDepth 100000 in
theorem q_k_X1_init : q_mok q_m_X1_init := ⟨rfl, by decide +kernel, rfl, by decide +kernel, by decide +kernel⟩
set_option maxRecDepth 100000 in
theorem q_k_X1_keep : q_mok q_m_X1_keep := ⟨rfl, by decide +kernel, rfl, by decide +kernel, by decide +kernel⟩
set_option maxRecDepth 100000 in
theorem q_k_X4_canStep : q_mok q_m_X4_canStep := ⟨rfl, by decide +kernel, rfl, by decide +kernel, by decide +kernel⟩
set_option maxRecDepth 100000 in
theorem q_k_X4_noteOther : q_mok q_m_X4_noteOther := ⟨rfl, by decide +kernel, rfl, by decide +kernel, by decide +kernel⟩
set_option maxRecDepth 100000 in
theorem q_k_X6_enteredNeighbors : q_mok q_m_X6_enteredNeighbors := ⟨rfl, by decide +kernel, rfl, by decide +kernel, by decide +kernel⟩
set_option maxRecDepth 100000 in
theorem q_k_X6_ordersIn : q_mok q_m_X6_ordersIn := ⟨rfl, by decide +kernel, rfl, by decide +kernel, by decide +kernel⟩
set_option maxRecDepth 100000 in
theorem q_k_X6_tick : q_mok q_m_X6_tick := ⟨rfl, by decide +kernel, rfl, by decide +kernel, by decide +kernel⟩
set_option maxRecDepth 100000 in
theorem q_k_X6_waitingBefore : q_mok q_m_X6_waitingBefore := ⟨rfl, by decide +kernel, rfl, by decide +kernel, by decide +kernel⟩
set_option maxRecDepth 100000 in
theorem q_k_X7_refusesAssign : q_mok q_m_X7_refusesAssign := ⟨rfl, by decide +kernel, rfl, by decide +kernel, by decide +kernel⟩
set_option maxRecDepth 100000 in
theorem q_k_X7_refusesFound : q_mok q_m_X7_refusesFound := ⟨rfl, by decide +kernel, rfl, by decide +kernel, by decide +kernel⟩
set_option maxRecDepth 100000 in
theorem q_k_X7_refusesGoal : q_mok q_m_X7_refusesGoal := ⟨rfl, by decide +kernel, rfl, by decide +kernel, by decide +kernel⟩
set_option maxRecDepth 100000 in
theorem q_k_X7_refusesOrder : q_mok q_m_X7_refusesOrder := ⟨rfl, by decide +kernel, rfl, by decide +kernel, by decide +kernel⟩
set_option maxRecDepth 100000 in
theorem q_k_X7_refusesRobotsCell : q_mok q_m_X7_refusesRobotsCell := ⟨rfl, by decide +kernel, rfl, by decide +kernel, by decide +kernel⟩
set_option maxRecDepth 100000 in
theorem q_k_J0_init_81219 : q_mok q_m_J0_init_81219 := ⟨rfl, by decide +kernel, rfl, by decide +kernel, by decide +kernel⟩
set_option maxRecDepth 100000 in
theorem q_k_J5_append_cf1ce : q_mok q_m_J5_append_cf1ce := ⟨rfl, by decide +kernel, rfl, by decide +kernel, by decide +kernel⟩
set_option maxRecDepth 100000 in
theorem q_k_X0_between : q_mok q_m_X0_between := ⟨rfl, by decide +kernel, rfl, by decide +kernel, by decide +kernel⟩
set_option maxRecDepth 100000 in
theorem q_k_X0_countFrom : q_mok q_m_X0_countFrom := ⟨rfl, by decide +kernel, rfl, by decide +kernel, by decide +kernel⟩
set_option maxRecDepth 100000 in
theorem q_k_X0_farthestFrom : q_mok q_m_X0_farthestFrom := ⟨rfl, by decide +kernel, rfl, by decide +kernel, by decide +kernel⟩
set_option maxRecDepth 100000 in
theorem q_k_X0_fillTable : q_mok q_m_X0_fillTable := ⟨rfl, by decide +kernel, rfl, by decide +kernel, by decide +kernel⟩
set_option maxRecDepth 100000 in
theorem q_k_X4_canComeTo : q_mok q_m_X4_canComeTo := ⟨rfl, by decide +kernel, rfl, by decide +kernel, by decide +kernel⟩
set_option maxRecDepth 100000 in
theorem q_k_X4_prepare : q_mok q_m_X4_prepare := ⟨rfl, by decide +kernel, rfl, by decide +kernel, by decide +kernel⟩
set_option maxRecDepth 100000 in
theorem q_k_X6_waitingOrder : q_mok q_m_X6_waitingOrder := ⟨rfl, by decide +kernel, rfl, by decide +kernel, by decide +kernel⟩
set_option maxRecDepth 100000 in
theorem q_k_X7_init : q_mok q_m_X7_init := ⟨rfl, by decide +kernel, rfl, by decide +kernel, by decide +kernel⟩
set_option maxRecDepth 100000 in
theorem q_k_X7_refusesAdd : q_mok q_m_X7_refusesAdd := ⟨rfl, by decide +kernel, rfl, by decide +kernel, by decide +kernel⟩
set_option maxRecDepth 100000 in
theorem q_k_X7_refusesCancel : q_mok q_m_X7_refusesCancel := ⟨rfl, by decide +kernel, rfl, by decide +kernel, by decide +kernel⟩
set_option maxRecDepth 100000 in
theorem q_k_X7_refusesClose : q_mok q_m_X7_refusesClose := ⟨rfl, by decide +kernel, rfl, by decide +kernel, by decide +kernel⟩
set_option maxRecDepth 100000 in
theorem q_k_J4_append_15ec4 : q_mok q_m_J4_append_15ec4 := ⟨rfl, by decide +kernel, rfl, by decide +kernel, by decide +kernel⟩
set_option maxRecDepth 100000 in
theorem q_k_J4_toString_0e30d : q_mok q_m_J4_toString_0e30d := ⟨rfl, by decide +kernel, rfl, by decide +kernel, by decide +kernel⟩
set_option maxRecDepth 100000 in
theorem q_k_X0_bestRobotFor : q_mok q_m_X0_bestRobotFor := ⟨rfl, by decide +kernel, rfl, by decide +kernel, by decide +kernel⟩
set_option maxRecDepth 100000 in
theorem q_k_X0_renewTable : q_mok q_m_X0_renewTable := ⟨rfl, by decide +kernel, rfl, by decide +kernel, by decide +kernel⟩
set_option maxRecDepth 100000 in
theorem q_k_X4_cellsAfter : q_mok q_m_X4_cellsAfter := ⟨rfl, by decide +kernel, rfl, by decide +kernel, by decide +kernel⟩
set_option maxRecDepth 100000 in
theorem q_k_X4_findFirst : q_mok q_m_X4_findFirst := ⟨rfl, by decide +kernel, rfl, by decide +kernel, by decide +kernel⟩
set_option maxRecDepth 100000 in
theorem q_k_X0_betweenByTable : q_mok q_m_X0_betweenByTable := ⟨rfl, by decide +kernel, rfl, by decide +kernel, by decide +kernel⟩
set_option maxRecDepth 100000 in
theorem q_k_X4_findTickByTick : q_mok q_m_X4_findTickByTick := ⟨rfl, by decide +kernel, rfl, by decide +kernel, by decide +kernel⟩
set_option maxRecDepth 100000 in
theorem q_k_X7_account : q_mok q_m_X7_account := ⟨rfl, by decide +kernel, rfl, by decide +kernel, by decide +kernel⟩
set_option maxRecDepth 100000 in
theorem q_k_X7_add : q_mok q_m_X7_add := ⟨rfl, by decide +kernel, rfl, by decide +kernel, by decide +kernel⟩
set_option maxRecDepth 100000 in
theorem q_k_X7_append : q_mok q_m_X7_append := ⟨rfl, by decide +kernel, rfl, by decide +kernel, by decide +kernel⟩
set_option maxRecDepth 100000 in
theorem q_k_X7_arrival : q_mok q_m_X7_arrival := ⟨rfl, by decide +kernel, rfl, by decide +kernel, by decide +kernel⟩
set_option maxRecDepth 100000 in
theorem q_k_X7_arrivalAgain : q_mok q_m_X7_arrivalAgain := ⟨rfl, by decide +kernel, rfl, by decide +kernel, by decide +kernel⟩
set_option maxRecDepth 100000 in
theorem q_k_X7_assign : q_mok q_m_X7_assign := ⟨rfl, by decide +kernel, rfl, by decide +kernel, by decide +kernel⟩
set_option maxRecDepth 100000 in
theorem q_k_X7_cancel : q_mok q_m_X7_cancel := ⟨rfl, by decide +kernel, rfl, by decide +kernel, by decide +kernel⟩
set_option maxRecDepth 100000 in
theorem q_k_X7_cell : q_mok q_m_X7_cell := ⟨rfl, by decide +kernel, rfl, by decide +kernel, by decide +kernel⟩
set_option maxRecDepth 100000 in
theorem q_k_X7_close : q_mok q_m_X7_close := ⟨rfl, by decide +kernel, rfl, by decide +kernel, by decide +kernel⟩
set_option maxRecDepth 100000 in
theorem q_k_X7_distance : q_mok q_m_X7_distance := ⟨rfl, by decide +kernel, rfl, by decide +kernel, by decide +kernel⟩
set_option maxRecDepth 100000 in
theorem q_k_X7_distanceAgain : q_mok q_m_X7_distanceAgain := ⟨rfl, by decide +kernel, rfl, by decide +kernel, by decide +kernel⟩
set_option maxRecDepth 100000 in
theorem q_k_X7_farthest : q_mok q_m_X7_farthest := ⟨rfl, by decide +kernel, rfl, by decide +kernel, by decide +kernel⟩
set_option maxRecDepth 100000 in
theorem q_k_X7_lateness : q_mok q_m_X7_lateness := ⟨rfl, by decide +kernel, rfl, by decide +kernel, by decide +kernel⟩
set_option maxRecDepth 100000 in
theorem q_k_X7_layout : q_mok q_m_X7_layout := ⟨rfl, by decide +kernel, rfl, by decide +kernel, by decide +kernel⟩
set_option maxRecDepth 100000 in
theorem q_k_X7_letter : q_mok q_m_X7_letter := ⟨rfl, by decide +kernel, rfl, by decide +kernel, by decide +kernel⟩
set_option maxRecDepth 100000 in
theorem q_k_X7_line : q_mok q_m_X7_line := ⟨rfl, by decide +kernel, rfl, by decide +kernel, by decide +kernel⟩
set_option maxRecDepth 100000 in
theorem q_k_X7_loaded : q_mok q_m_X7_loaded := ⟨rfl, by decide +kernel, rfl, by decide +kernel, by decide +kernel⟩
set_option maxRecDepth 100000 in
theorem q_k_X7_open : q_mok q_m_X7_open := ⟨rfl, by decide +kernel, rfl, by decide +kernel, by decide +kernel⟩
set_option maxRecDepth 100000 in
theorem q_k_X7_order : q_mok q_m_X7_order := ⟨rfl, by decide +kernel, rfl, by decide +kernel, by decide +kernel⟩
set_option maxRecDepth 100000 in
theorem q_k_X7_orderOf : q_mok q_m_X7_orderOf := ⟨rfl, by decide +kernel, rfl, by decide +kernel, by decide +kernel⟩
set_option maxRecDepth 100000 in
theorem q_k_X7_pass : q_mok q_m_X7_pass := ⟨rfl, by decide +kernel, rfl, by decide +kernel, by decide +kernel⟩
set_option maxRecDepth 100000 in
theorem q_k_X7_plan : q_mok q_m_X7_plan := ⟨rfl, by decide +kernel, rfl, by decide +kernel, by decide +kernel⟩
set_option maxRecDepth 100000 in
theorem q_k_X7_planned : q_mok q_m_X7_planned := ⟨rfl, by decide +kernel, rfl, by decide +kernel, by decide +kernel⟩
set_option maxRecDepth 100000 in
theorem q_k_X7_reach : q_mok q_m_X7_reach := ⟨rfl, by decide +kernel, rfl, by decide +kernel, by decide +kernel⟩
set_option maxRecDepth 100000 in
theorem q_k_X7_reason : q_mok q_m_X7_reason := ⟨rfl, by decide +kernel, rfl, by decide +kernel, by decide +kernel⟩
set_option maxRecDepth 100000 in
theorem q_k_X7_release : q_mok q_m_X7_release := ⟨rfl, by decide +kernel, rfl, by decide +kernel, by decide +kernel⟩
set_option maxRecDepth 100000 in
theorem q_k_X7_reserved : q_mok q_m_X7_reserved := ⟨rfl, by decide +kernel, rfl, by decide +kernel, by decide +kernel⟩
set_option maxRecDepth 100000 in
theorem q_k_X7_robotOf : q_mok q_m_X7_robotOf := ⟨rfl, by decide +kernel, rfl, by decide +kernel, by decide +kernel⟩
set_option maxRecDepth 100000 in
theorem q_k_X7_set : q_mok q_m_X7_set := ⟨rfl, by decide +kernel, rfl, by decide +kernel, by decide +kernel⟩
set_option maxRecDepth 100000 in
theorem q_k_X7_suited : q_mok q_m_X7_suited := ⟨rfl, by decide +kernel, rfl, by decide +kernel, by decide +kernel⟩
set_option maxRecDepth 100000 in
theorem q_k_X7_takeOff : q_mok q_m_X7_takeOff := ⟨rfl, by decide +kernel, rfl, by decide +kernel, by decide +kernel⟩
set_option maxRecDepth 100000 in
theorem q_k_X7_undo : q_mok q_m_X7_undo := ⟨rfl, by decide +kernel, rfl, by decide +kernel, by decide +kernel⟩
set_option maxRecDepth 100000 in
theorem q_k_X7_waiting : q_mok q_m_X7_waiting := ⟨rfl, by decide +kernel, rfl, by decide +kernel, by decide +kernel⟩
set_option maxRecDepth 100000 in
theorem q_k_L_accounts : q_mok q_m_L_accounts := ⟨rfl, by decide +kernel, rfl, by decide +kernel, by decide +kernel⟩
set_option maxRecDepth 100000 in
theorem q_k_L_add : q_mok q_m_L_add := ⟨rfl, by decide +kernel, rfl, by decide +kernel, by decide +kernel⟩
set_option maxRecDepth 100000 in
theorem q_k_L_append : q_mok q_m_L_append := ⟨rfl, by decide +kernel, rfl, by decide +kernel, by decide +kernel⟩
set_option maxRecDepth 100000 in
theorem q_k_L_arrival : q_mok q_m_L_arrival := ⟨rfl, by decide +kernel, rfl, by decide +kernel, by decide +kernel⟩
set_option maxRecDepth 100000 in
theorem q_k_L_arrivalAgain : q_mok q_m_L_arrivalAgain := ⟨rfl, by decide +kernel, rfl, by decide +kernel, by decide +kernel⟩
set_option maxRecDepth 100000 in
theorem q_k_L_assign : q_mok q_m_L_assign := ⟨rfl, by decide +kernel, rfl, by decide +kernel, by decide +kernel⟩
set_option maxRecDepth 100000 in
theorem q_k_L_cancel : q_mok q_m_L_cancel := ⟨rfl, by decide +kernel, rfl, by decide +kernel, by decide +kernel⟩
set_option maxRecDepth 100000 in
theorem q_k_L_cells : q_mok q_m_L_cells := ⟨rfl, by decide +kernel, rfl, by decide +kernel, by decide +kernel⟩
set_option maxRecDepth 100000 in
theorem q_k_L_close : q_mok q_m_L_close := ⟨rfl, by decide +kernel, rfl, by decide +kernel, by decide +kernel⟩
set_option maxRecDepth 100000 in
theorem q_k_L_distance : q_mok q_m_L_distance := ⟨rfl, by decide +kernel, rfl, by decide +kernel, by decide +kernel⟩
set_option maxRecDepth 100000 in
theorem q_k_L_distanceAgain : q_mok q_m_L_distanceAgain := ⟨rfl, by decide +kernel, rfl, by decide +kernel, by decide +kernel⟩
set_option maxRecDepth 100000 in
theorem q_k_L_layout : q_mok q_m_L_layout := ⟨rfl, by decide +kernel, rfl, by decide +kernel, by decide +kernel⟩
set_option maxRecDepth 100000 in
theorem q_k_L_open : q_mok q_m_L_open := ⟨rfl, by decide +kernel, rfl, by decide +kernel, by decide +kernel⟩
set_option maxRecDepth 100000 in
theorem q_k_L_order : q_mok q_m_L_order := ⟨rfl, by decide +kernel, rfl, by decide +kernel, by decide +kernel⟩
set_option maxRecDepth 100000 in
theorem q_k_L_pass : q_mok q_m_L_pass := ⟨rfl, by decide +kernel, rfl, by decide +kernel, by decide +kernel⟩
set_option maxRecDepth 100000 in
theorem q_k_L_plan : q_mok q_m_L_plan := ⟨rfl, by decide +kernel, rfl, by decide +kernel, by decide +kernel⟩
set_option maxRecDepth 100000 in
theorem q_k_L_reason : q_mok q_m_L_reason := ⟨rfl, by decide +kernel, rfl, by decide +kernel, by decide +kernel⟩
set_option maxRecDepth 100000 in
theorem q_k_L_release : q_mok q_m_L_release := ⟨rfl, by decide +kernel, rfl, by decide +kernel, by decide +kernel⟩
set_option maxRecDepth 100000 in
theorem q_k_L_set : q_mok q_m_L_set := ⟨rfl, by decide +kernel, rfl, by decide +kernel, by decide +kernel⟩
set_option maxRecDepth 100000 in
theorem q_k_L_suited : q_mok q_m_L_suited := ⟨rfl, by decide +kernel, rfl, by decide +kernel, by decide +kernel⟩
set_option maxRecDepth 100000 in
theorem q_k_L_takeOff : q_mok q_m_L_takeOff := ⟨rfl, by decide +kernel, rfl, by decide +kernel, by decide +kernel⟩
set_option maxRecDepth 100000 in
theorem q_k_L_undo : q_mok q_m_L_undo := ⟨rfl, by decide +kernel, rfl, by decide +kernel, by decide +kernel⟩
set_option maxRecDepth 100000 in
theorem q_k_L_waiting : q_mok q_m_L_waiting := ⟨rfl, by decide +kernel, rfl, by decide +kernel, by decide +kernel⟩
set_option maxRecDepth 100000 in
theorem q_k_L_arrivals : q_mok q_m_L_arrivals := ⟨rfl, by decide +kernel, rfl, by decide +kernel, by decide +kernel⟩
set_option maxRecDepth 100000 in
theorem q_k_L_distances : q_mok q_m_L_distances := ⟨rfl, by decide +kernel, rfl, by decide +kernel, by decide +kernel⟩
set_option maxRecDepth 100000 in
theorem q_k_L_layout_ : q_mok q_m_L_layout_ := ⟨rfl, by decide +kernel, rfl, by decide +kernel, by decide +kernel⟩
set_option maxRecDepth 100000 in
theorem q_k_L_letters : q_mok q_m_L_letters := ⟨rfl, by decide +kernel, rfl, by decide +kernel, by decide +kernel⟩
set_option maxRecDepth 100000 in
theorem q_k_L_orders : q_mok q_m_L_orders := ⟨rfl, by decide +kernel, rfl, by decide +kernel, by decide +kernel⟩
set_option maxRecDepth 100000 in
theorem q_k_L_plans : q_mok q_m_L_plans := ⟨rfl, by decide +kernel, rfl, by decide +kernel, by decide +kernel⟩
set_option maxRecDepth 100000 in
theorem q_k_L_sum : q_mok q_m_L_sum := ⟨rfl, by decide +kernel, rfl, by decide +kernel, by decide +kernel⟩
set_option maxRecDepth 100000 in
theorem q_k_L_drawn : q_mok q_m_L_drawn := ⟨rfl, by decide +kernel, rfl, by decide +kernel, by decide +kernel⟩
set_option maxRecDepth 100000 in
theorem q_k_L_goesOn : q_mok q_m_L_goesOn := ⟨rfl, by decide +kernel, rfl, by decide +kernel, by decide +kernel⟩
set_option maxRecDepth 100000 in
theorem q_k_L_undone : q_mok q_m_L_undone := ⟨rfl, by decide +kernel, rfl, by decide +kernel, by decide +kernel⟩
theorem q_mo_0 : ∀ x ∈ q_cal 0, q_mok x.2.2.2.1 := by
  unfold q_cal
  exact List.forall_mem_cons.mpr ⟨q_k_X0_measureFrom, List.forall_mem_cons.mpr ⟨q_k_X0_stepsTo, List.forall_mem_cons.mpr ⟨q_k_X6_isCell, List.forall_mem_cons.mpr ⟨q_k_J7_fill_53178, List.forall_mem_cons.mpr ⟨q_k_X6_neighbor, List.forall_mem_cons.mpr ⟨q_k_X6_canEnter, List.forall_mem_cons.mpr ⟨q_k_X6_isRobot, List.forall_mem_cons.mpr ⟨q_k_X0_between, List.forall_mem_cons.mpr ⟨q_k_X0_isBetter, List.forall_mem_cons.mpr ⟨q_k_X0_renewTable, List.forall_mem_cons.mpr ⟨q_k_X0_openCells, List.forall_mem_cons.mpr ⟨q_k_X0_fillTable, List.forall_mem_cons.mpr ⟨q_k_X0_nearOfNeighbors, List.forall_mem_cons.mpr ⟨q_k_X0_noteRound, fun _ h => absurd h List.not_mem_nil⟩⟩⟩⟩⟩⟩⟩⟩⟩⟩⟩⟩⟩⟩
theorem q_mo_1 : ∀ x ∈ q_cal 1, q_mok x.2.2.2.1 := by
  unfold q_cal
  exact List.forall_mem_cons.mpr ⟨q_k_X6_init, List.forall_mem_cons.mpr ⟨q_k_X6_copyFrom, fun _ h => absurd h List.not_mem_nil⟩⟩
theorem q_mo_2 : ∀ x ∈ q_cal 2, q_mok x.2.2.2.1 := by
  unfold q_cal
  exact List.forall_mem_cons.mpr ⟨q_k_X2_isFull, List.forall_mem_cons.mpr ⟨q_k_X2_canEndRow, List.forall_mem_cons.mpr ⟨q_k_X2_endRow, List.forall_mem_cons.mpr ⟨q_k_X2_kindOf, List.forall_mem_cons.mpr ⟨q_k_X2_canGrowRow, fun _ h => absurd h List.not_mem_nil⟩⟩⟩⟩⟩
theorem q_mo_4 : ∀ x ∈ q_cal 4, q_mok x.2.2.2.1 := by
  unfold q_cal
  exact List.forall_mem_cons.mpr ⟨q_k_X4_prepare, List.forall_mem_cons.mpr ⟨q_k_J7_fill_53178, List.forall_mem_cons.mpr ⟨q_k_X4_horizon, List.forall_mem_cons.mpr ⟨q_k_X6_neighbor, List.forall_mem_cons.mpr ⟨q_k_X4_canStep, List.forall_mem_cons.mpr ⟨q_k_X4_canEndAt, List.forall_mem_cons.mpr ⟨q_k_X4_tracePath, List.forall_mem_cons.mpr ⟨q_k_X4_cellsAfter, List.forall_mem_cons.mpr ⟨q_k_X6_isCell, List.forall_mem_cons.mpr ⟨q_k_X4_canComeTo, List.forall_mem_cons.mpr ⟨q_k_X6_isRobot, List.forall_mem_cons.mpr ⟨q_k_X6_canEnter, List.forall_mem_cons.mpr ⟨q_k_J7_fill_d0a16, List.forall_mem_cons.mpr ⟨q_k_X4_noteOther, List.forall_mem_cons.mpr ⟨q_k_X5_cellAhead, List.forall_mem_cons.mpr ⟨q_k_X5_lastTickIn, List.forall_mem_cons.mpr ⟨q_k_X4_isTaken, List.forall_mem_cons.mpr ⟨q_k_X4_changesPlaces, fun _ h => absurd h List.not_mem_nil⟩⟩⟩⟩⟩⟩⟩⟩⟩⟩⟩⟩⟩⟩⟩⟩⟩⟩
theorem q_mo_5 : ∀ x ∈ q_cal 5, q_mok x.2.2.2.1 := by
  unfold q_cal
  exact List.forall_mem_cons.mpr ⟨q_k_X5_cellAhead, List.forall_mem_cons.mpr ⟨q_k_X5_lastCell, fun _ h => absurd h List.not_mem_nil⟩⟩
theorem q_mo_6 : ∀ x ∈ q_cal 6, q_mok x.2.2.2.1 := by
  unfold q_cal
  exact List.forall_mem_cons.mpr ⟨q_k_X5_init, List.forall_mem_cons.mpr ⟨q_k_X3_init, List.forall_mem_cons.mpr ⟨q_k_X5_copyFrom, List.forall_mem_cons.mpr ⟨q_k_X3_copyFrom, List.forall_mem_cons.mpr ⟨q_k_X2_kindOf, List.forall_mem_cons.mpr ⟨q_k_X6_cellCount, List.forall_mem_cons.mpr ⟨q_k_X6_isCell, List.forall_mem_cons.mpr ⟨q_k_X6_columnOf, List.forall_mem_cons.mpr ⟨q_k_X6_neighbor, List.forall_mem_cons.mpr ⟨q_k_X6_canEnter, List.forall_mem_cons.mpr ⟨q_k_X5_begin, List.forall_mem_cons.mpr ⟨q_k_X6_isRobot, List.forall_mem_cons.mpr ⟨q_k_X3_begin, List.forall_mem_cons.mpr ⟨q_k_X6_isOrder, List.forall_mem_cons.mpr ⟨q_k_X5_cellAhead, List.forall_mem_cons.mpr ⟨q_k_X5_isEverIn, List.forall_mem_cons.mpr ⟨q_k_X6_robotWith, List.forall_mem_cons.mpr ⟨q_k_X6_stateOf, List.forall_mem_cons.mpr ⟨q_k_X6_waitingBefore, List.forall_mem_cons.mpr ⟨q_k_X6_isRankedBefore, List.forall_mem_cons.mpr ⟨q_k_X3_linesLeft, List.forall_mem_cons.mpr ⟨q_k_X6_isLoaded, List.forall_mem_cons.mpr ⟨q_k_X5_goOn, List.forall_mem_cons.mpr ⟨q_k_X6_endPlan, List.forall_mem_cons.mpr ⟨q_k_X5_charge, List.forall_mem_cons.mpr ⟨q_k_X3_isNextLine, fun _ h => absurd h List.not_mem_nil⟩⟩⟩⟩⟩⟩⟩⟩⟩⟩⟩⟩⟩⟩⟩⟩⟩⟩⟩⟩⟩⟩⟩⟩⟩⟩
theorem q_mo_7 : ∀ x ∈ q_cal 7, q_mok x.2.2.2.1 := by
  unfold q_cal
  exact List.forall_mem_cons.mpr ⟨q_k_X6_init, List.forall_mem_cons.mpr ⟨q_k_X1_init, List.forall_mem_cons.mpr ⟨q_k_X2_init, List.forall_mem_cons.mpr ⟨q_k_X0_init, List.forall_mem_cons.mpr ⟨q_k_X4_init, List.forall_mem_cons.mpr ⟨q_k_X2_isFull, List.forall_mem_cons.mpr ⟨q_k_X2_take, List.forall_mem_cons.mpr ⟨q_k_X2_findFault, List.forall_mem_cons.mpr ⟨q_k_X1_keep, List.forall_mem_cons.mpr ⟨q_k_X6_rebuild, List.forall_mem_cons.mpr ⟨q_k_X6_cellCount, List.forall_mem_cons.mpr ⟨q_k_X7_refusesAdd, List.forall_mem_cons.mpr ⟨q_k_X6_putRobot, List.forall_mem_cons.mpr ⟨q_k_X6_isCell, List.forall_mem_cons.mpr ⟨q_k_X7_refuse, List.forall_mem_cons.mpr ⟨q_k_X6_canEnter, List.forall_mem_cons.mpr ⟨q_k_X7_refusesRobotsCell, List.forall_mem_cons.mpr ⟨q_k_X7_refusesTakeOff, List.forall_mem_cons.mpr ⟨q_k_X6_dropRobot, List.forall_mem_cons.mpr ⟨q_k_X6_isRobot, List.forall_mem_cons.mpr ⟨q_k_X7_refusesOrder, List.forall_mem_cons.mpr ⟨q_k_X6_putOrder, List.forall_mem_cons.mpr ⟨q_k_X6_isCellOrNone, List.forall_mem_cons.mpr ⟨q_k_X7_refusesLine, List.forall_mem_cons.mpr ⟨q_k_X7_refusesAssign, List.forall_mem_cons.mpr ⟨q_k_X3_linesLeft, List.forall_mem_cons.mpr ⟨q_k_X6_isOrder, List.forall_mem_cons.mpr ⟨q_k_X6_stateOf, List.forall_mem_cons.mpr ⟨q_k_X7_refusesRelease, List.forall_mem_cons.mpr ⟨q_k_X6_freeRobot, List.forall_mem_cons.mpr ⟨q_k_X7_refusesClose, List.forall_mem_cons.mpr ⟨q_k_X6_closedCount, List.forall_mem_cons.mpr ⟨q_k_X7_refusesOpen, List.forall_mem_cons.mpr ⟨q_k_X7_refusesSet, List.forall_mem_cons.mpr ⟨q_k_X7_refusesGoal, List.forall_mem_cons.mpr ⟨q_k_X4_findFirst, List.forall_mem_cons.mpr ⟨q_k_X7_refusesFound, List.forall_mem_cons.mpr ⟨q_k_X6_stepCost, List.forall_mem_cons.mpr ⟨q_k_X5_follow, List.forall_mem_cons.mpr ⟨q_k_X4_stepsOfPath, List.forall_mem_cons.mpr ⟨q_k_X7_refusesCancel, List.forall_mem_cons.mpr ⟨q_k_X7_refusesPass, List.forall_mem_cons.mpr ⟨q_k_X6_tick, List.forall_mem_cons.mpr ⟨q_k_X6_robotThere, List.forall_mem_cons.mpr ⟨q_k_X6_enteredNeighbors, List.forall_mem_cons.mpr ⟨q_k_X7_signOf, List.forall_mem_cons.mpr ⟨q_k_X0_between, List.forall_mem_cons.mpr ⟨q_k_X0_betweenByTable, List.forall_mem_cons.mpr ⟨q_k_X0_countFrom, List.forall_mem_cons.mpr ⟨q_k_X0_farthestFrom, List.forall_mem_cons.mpr ⟨q_k_X5_lastCell, List.forall_mem_cons.mpr ⟨q_k_X6_isLoaded, List.forall_mem_cons.mpr ⟨q_k_X5_cellAhead, List.forall_mem_cons.mpr ⟨q_k_X4_findTickByTick, List.forall_mem_cons.mpr ⟨q_k_X6_robotWith, List.forall_mem_cons.mpr ⟨q_k_X6_ordersIn, List.forall_mem_cons.mpr ⟨q_k_X6_waitingOrder, List.forall_mem_cons.mpr ⟨q_k_X0_bestRobotFor, List.forall_mem_cons.mpr ⟨q_k_X6_loadedCount, List.forall_mem_cons.mpr ⟨q_k_X6_latenessSum, List.forall_mem_cons.mpr ⟨q_k_X6_stepSum, List.forall_mem_cons.mpr ⟨q_k_X6_pickedSum, List.forall_mem_cons.mpr ⟨q_k_X6_batterySum, List.forall_mem_cons.mpr ⟨q_k_X1_giveBack, List.forall_mem_cons.mpr ⟨q_k_X6_lowestRobotEverIn, fun _ h => absurd h List.not_mem_nil⟩⟩⟩⟩⟩⟩⟩⟩⟩⟩⟩⟩⟩⟩⟩⟩⟩⟩⟩⟩⟩⟩⟩⟩⟩⟩⟩⟩⟩⟩⟩⟩⟩⟩⟩⟩⟩⟩⟩⟩⟩⟩⟩⟩⟩⟩⟩⟩⟩⟩⟩⟩⟩⟩⟩⟩⟩⟩⟩⟩⟩⟩⟩⟩⟩
theorem q_mo_8 : ∀ x ∈ q_cal 8, q_mok x.2.2.2.1 := by
  unfold q_cal
  exact List.forall_mem_cons.mpr ⟨q_k_J5_init_d00df, List.forall_mem_cons.mpr ⟨q_k_J0_init_81219, fun _ h => absurd h List.not_mem_nil⟩⟩
theorem q_mo_9 : ∀ x ∈ q_cal 9, q_mok x.2.2.2.1 := by
  unfold q_cal
  exact List.forall_mem_cons.mpr ⟨q_k_X7_append, List.forall_mem_cons.mpr ⟨q_k_X7_layout, List.forall_mem_cons.mpr ⟨q_k_J0_length_8abf5, List.forall_mem_cons.mpr ⟨q_k_J0_charAt_5068e, List.forall_mem_cons.mpr ⟨q_k_L_append, List.forall_mem_cons.mpr ⟨q_k_L_layout, List.forall_mem_cons.mpr ⟨q_k_X7_add, List.forall_mem_cons.mpr ⟨q_k_X7_takeOff, List.forall_mem_cons.mpr ⟨q_k_X7_order, List.forall_mem_cons.mpr ⟨q_k_X7_assign, List.forall_mem_cons.mpr ⟨q_k_X7_release, List.forall_mem_cons.mpr ⟨q_k_X7_close, List.forall_mem_cons.mpr ⟨q_k_X7_open, List.forall_mem_cons.mpr ⟨q_k_X7_set, List.forall_mem_cons.mpr ⟨q_k_X7_plan, List.forall_mem_cons.mpr ⟨q_k_X7_cancel, List.forall_mem_cons.mpr ⟨q_k_X7_pass, List.forall_mem_cons.mpr ⟨q_k_X7_distance, List.forall_mem_cons.mpr ⟨q_k_X7_distanceAgain, List.forall_mem_cons.mpr ⟨q_k_X7_arrival, List.forall_mem_cons.mpr ⟨q_k_X7_arrivalAgain, List.forall_mem_cons.mpr ⟨q_k_X7_suited, List.forall_mem_cons.mpr ⟨q_k_X7_waiting, List.forall_mem_cons.mpr ⟨q_k_X7_reason, List.forall_mem_cons.mpr ⟨q_k_X7_undo, List.forall_mem_cons.mpr ⟨q_k_X7_account, List.forall_mem_cons.mpr ⟨q_k_X7_init, List.forall_mem_cons.mpr ⟨q_k_L_cell, List.forall_mem_cons.mpr ⟨q_k_J4_init_da8c8, List.forall_mem_cons.mpr ⟨q_k_J4_append_15ec4, List.forall_mem_cons.mpr ⟨q_k_J4_toString_0e30d, List.forall_mem_cons.mpr ⟨q_k_L_layout_, List.forall_mem_cons.mpr ⟨q_k_L_set, List.forall_mem_cons.mpr ⟨q_k_L_cells, List.forall_mem_cons.mpr ⟨q_k_L_add, List.forall_mem_cons.mpr ⟨q_k_L_reason, List.forall_mem_cons.mpr ⟨q_k_L_order, List.forall_mem_cons.mpr ⟨q_k_L_assign, List.forall_mem_cons.mpr ⟨q_k_L_plan, List.forall_mem_cons.mpr ⟨q_k_L_pass, List.forall_mem_cons.mpr ⟨q_k_L_drawn, List.forall_mem_cons.mpr ⟨q_k_L_plans, List.forall_mem_cons.mpr ⟨q_k_L_distances, List.forall_mem_cons.mpr ⟨q_k_L_arrivals, List.forall_mem_cons.mpr ⟨q_k_L_orders, List.forall_mem_cons.mpr ⟨q_k_L_accounts, List.forall_mem_cons.mpr ⟨q_k_L_letters, List.forall_mem_cons.mpr ⟨q_k_L_goesOn, List.forall_mem_cons.mpr ⟨q_k_L_undone, List.forall_mem_cons.mpr ⟨q_k_X7_planned, List.forall_mem_cons.mpr ⟨q_k_X7_cell, List.forall_mem_cons.mpr ⟨q_k_X7_reserved, List.forall_mem_cons.mpr ⟨q_k_L_distance, List.forall_mem_cons.mpr ⟨q_k_X7_robotOf, List.forall_mem_cons.mpr ⟨q_k_L_distanceAgain, List.forall_mem_cons.mpr ⟨q_k_X7_reach, List.forall_mem_cons.mpr ⟨q_k_X7_farthest, List.forall_mem_cons.mpr ⟨q_k_L_arrival, List.forall_mem_cons.mpr ⟨q_k_L_arrivalAgain, List.forall_mem_cons.mpr ⟨q_k_L_waiting, List.forall_mem_cons.mpr ⟨q_k_X7_orderOf, List.forall_mem_cons.mpr ⟨q_k_X7_line, List.forall_mem_cons.mpr ⟨q_k_L_suited, List.forall_mem_cons.mpr ⟨q_k_X7_loaded, List.forall_mem_cons.mpr ⟨q_k_X7_lateness, List.forall_mem_cons.mpr ⟨q_k_X7_letter, List.forall_mem_cons.mpr ⟨q_k_L_undo, List.forall_mem_cons.mpr ⟨q_k_L_sum, List.forall_mem_cons.mpr ⟨q_k_L_takeOff, List.forall_mem_cons.mpr ⟨q_k_L_release, List.forall_mem_cons.mpr ⟨q_k_L_close, List.forall_mem_cons.mpr ⟨q_k_L_open, List.forall_mem_cons.mpr ⟨q_k_L_cancel, fun _ h => absurd h List.not_mem_nil⟩⟩⟩⟩⟩⟩⟩⟩⟩⟩⟩⟩⟩⟩⟩⟩⟩⟩⟩⟩⟩⟩⟩⟩⟩⟩⟩⟩⟩⟩⟩⟩⟩⟩⟩⟩⟩⟩⟩⟩⟩⟩⟩⟩⟩⟩⟩⟩⟩⟩⟩⟩⟩⟩⟩⟩⟩⟩⟩⟩⟩⟩⟩⟩⟩⟩⟩⟩⟩⟩⟩⟩⟩
theorem q_mo_10 : ∀ x ∈ q_cal 10, q_mok x.2.2.2.1 := by
  unfold q_cal
  exact List.forall_mem_cons.mpr ⟨q_k_J7_copyOfRangeByte_39247, List.forall_mem_cons.mpr ⟨q_k_J7_checkLength_df160, fun _ h => absurd h List.not_mem_nil⟩⟩
theorem q_mo_12 : ∀ x ∈ q_cal 12, q_mok x.2.2.2.1 := by
  unfold q_cal
  exact List.forall_mem_cons.mpr ⟨q_k_J7_copyOfRange_39247, List.forall_mem_cons.mpr ⟨q_k_J0_coder_7d493, List.forall_mem_cons.mpr ⟨q_k_J0_init_db425, List.forall_mem_cons.mpr ⟨q_k_J0_isLatin1_aae02, List.forall_mem_cons.mpr ⟨q_k_J1_charAt_3b067, List.forall_mem_cons.mpr ⟨q_k_J3_checkIndex_8e157, fun _ h => absurd h List.not_mem_nil⟩⟩⟩⟩⟩⟩
theorem q_mo_13 : ∀ x ∈ q_cal 13, q_mok x.2.2.2.1 := by
  unfold q_cal
  exact List.forall_mem_cons.mpr ⟨q_k_J0_checkIndex_df160, fun _ h => absurd h List.not_mem_nil⟩
theorem q_mo_15 : ∀ x ∈ q_cal 15, q_mok x.2.2.2.1 := by
  unfold q_cal
  exact List.forall_mem_cons.mpr ⟨q_k_J0_length_8abf5, List.forall_mem_cons.mpr ⟨q_k_J0_coder_7d493, List.forall_mem_cons.mpr ⟨q_k_J7_copyOf_9075b, List.forall_mem_cons.mpr ⟨q_k_J8_newLength_cabcc, List.forall_mem_cons.mpr ⟨q_k_J0_getBytes_840e7, fun _ h => absurd h List.not_mem_nil⟩⟩⟩⟩⟩
theorem q_mo : ∀ o, ∀ x ∈ q_cal o, q_mok x.2.2.2.1 := by
  intro o
  match o with
  | 0 => exact q_mo_0
  | 1 => exact q_mo_1
  | 2 => exact q_mo_2
  | 3 => exact fun _ h => absurd h List.not_mem_nil
  | 4 => exact q_mo_4
  | 5 => exact q_mo_5
  | 6 => exact q_mo_6
  | 7 => exact q_mo_7
  | 8 => exact q_mo_8
  | 9 => exact q_mo_9
  | 10 => exact q_mo_10
  | 11 => exact fun _ h => absurd h List.not_mem_nil
  | 12 => exact q_mo_12
  | 13 => exact q_mo_13
  | 14 => exact fun _ h => absurd h List.not_mem_nil
  | 15 => exact q_mo_15
  | _ + 16 => exact fun _ h => absurd h List.not_mem_nil
theorem q_new_ok : ∀ o, o < 17 → ∀ x ∈ q_new o, lw_tbl[x.2.2.1]? = some (.classLink (q_nm o) x.1 (q_cnm x.2.1)) ∧ lw_tbl[x.2.2.2.1]? = some (.instantiable (q_cnm x.2.1) (q_N x.2.1)) ∧ lw_tbl[x.2.2.2.2]? = some (.initialized (q_cnm x.2.1)) ∧ x.2.1 < 10 := by decide +kernel
theorem q_hc_ok : ∀ x ∈ q_hc 9, lw_tbl[x.2.2]? = some (.classLink (q_nm 9) x.1 x.2.1) := by decide +kernel
theorem q_cst_ok : ∀ x ∈ q_cst, lw_tbl[x.2]? = some (.castable x.1 x.1) := by decide +kernel
theorem q_acp_ok : ∀ o, o < 17 → ∀ x ∈ q_acp o, lw_tbl[x.2]? = some (.methodLink (q_nm o) x.1 arraycopyName) := by decide +kernel
theorem q_mth_ok : ∀ o, o < 17 → ∀ x ∈ q_mth o, x.2.1 < 2 ∧ lw_tbl[x.2.2.1]? = some (.methodLink (q_nm o) x.1 (bif Nat.beq x.2.1 0 then Lib.Math.max.name else Lib.Math.min.name)) ∧ lw_tbl[x.2.2.2.1]? = some (.static (bif Nat.beq x.2.1 0 then Lib.Math.max.name else Lib.Math.min.name)) ∧ lw_tbl[x.2.2.2.2.1]? = some (.initialized "java/lang/Math") ∧ lw_tbl[x.2.2.2.2.2]? = some (bif Nat.beq x.2.1 0 then .code Lib.Math.max.name Lib.Math.max.code 2 (some .int) else .code Lib.Math.min.name Lib.Math.min.code 2 (some .int)) := by decide +kernel
theorem q_obi_ok : ∀ o, o < 17 → ∀ x ∈ q_obi o, lw_tbl[x.2]? = some (.methodLink (q_nm o) x.1 objectInit) := by decide +kernel
theorem q_ldl_ok : ∀ o, o < 17 → ∀ x ∈ q_ldl o, lw_tbl[x.2.2]? = some (.constantLong (q_nm o) x.1 x.2.1) := by decide +kernel
theorem q_ws_ok : ∀ c, c < 10 → ∀ w ∈ u_ws (q_cnm c) (q_T c) (q_N c), w ∈ lw_tbl := by decide +kernel
theorem q_nm_ok : ∀ c, c < 10 → ∀ a, a < q_N c → ∀ b, b < q_N c → a ≠ b → (q_T c a).2.1 ≠ (q_T c b).2.1 := by decide +kernel
theorem q_ty_ok : ∀ c, c < 10 → ∀ k, k < q_N c → parseFieldDescriptor (q_T c k).2.2.1 = some (q_ty c k) := by decide +kernel
theorem q_cls_ok : ∀ c, c < 10 → q_cls[c]? = some (q_cnm c, q_T c, q_N c) := by
  intro c hc
  match c, hc with
  | 0, _ => rfl
  | 1, _ => rfl
  | 2, _ => rfl
  | 3, _ => rfl
  | 4, _ => rfl
  | 5, _ => rfl
  | 6, _ => rfl
  | 7, _ => rfl
  | 8, _ => rfl
  | 9, _ => rfl
theorem q_cav_ok : ∀ o, o < 17 → ∀ x ∈ q_cav o, (parseMethodDescriptor x.2.2.2.1.desc).map (fun d => d.parameters.length) = some x.2.2.1 ∧ lw_tbl[x.2.2.2.2.2.1]? = some (.methodLink (q_nm o) x.1 x.2.2.2.1) ∧ lw_tbl[x.2.2.2.2.2.2.1]? = some (.instanceMethod x.2.2.2.2.1.1) ∧ lw_tbl[x.2.2.2.2.2.2.2.2.1]? = some (.initialized x.2.2.2.2.1.1.cls) ∧ lw_tbl[x.2.2.2.2.2.2.2.2.2.1]? = some (.sameMethod x.2.2.2.1.cls x.2.2.2.1.cls x.2.2.2.1.name x.2.2.2.1.desc) := by decide +kernel
theorem q_cav_o2 : ∀ o, o < 17 → ∀ x ∈ q_cav o, (lw_tbl[x.2.2.2.2.2.2.2.2.2.2]?.any fun w => match w with | .code y _ _ _ => y == x.2.2.2.1 | _ => false) = true ∧ (x.2.1 = 3 ∨ x.2.1 = 4) ∧ (x.2.1 = 3 → lw_tbl[x.2.2.2.2.2.2.2.1]? = some (.selects RJ4 x.2.2.2.1 x.2.2.2.2.1.1)) ∧ (x.2.1 = 4 → x.2.2.2.1 = x.2.2.2.2.1.1 ∧ lw_tbl[x.2.2.2.2.2.2.2.1]? = some (.superclass (q_nm o) x.2.2.2.1.cls)) := by decide +kernel
theorem q_cav_o3 : ∀ o, o < 17 → ∀ x ∈ q_cav o, ¬ x.2.2.2.1.name = "<init>" ∧ ¬ x.2.2.2.1.cls = "java/lang/invoke/MethodHandle" ∧ ¬ x.2.2.2.1.cls = "java/lang/invoke/VarHandle" := by decide +kernel
theorem q_cav_o4 : ∀ o, o < 17 → ∀ x ∈ q_cav o, x.2.2.2.2.1.2.2.2.2.2.2.2.isEmpty = true ∧ x.2.2.2.2.1.2.2.1 ≤ 40 := by decide +kernel
theorem q_mov : ∀ o, ∀ x ∈ q_cav o, q_mok x.2.2.2.2.1 := by
  intro o
  match o with
  | 0 => exact fun _ h => absurd h List.not_mem_nil
  | 1 => exact fun _ h => absurd h List.not_mem_nil
  | 2 => exact fun _ h => absurd h List.not_mem_nil
  | 3 => exact fun _ h => absurd h List.not_mem_nil
  | 4 => exact fun _ h => absurd h List.not_mem_nil
  | 5 => exact fun _ h => absurd h List.not_mem_nil
  | 6 => exact fun _ h => absurd h List.not_mem_nil
  | 7 => exact fun _ h => absurd h List.not_mem_nil
  | 8 => exact List.forall_mem_cons.mpr ⟨q_k_J5_append_cf1ce, List.forall_mem_cons.mpr ⟨q_k_J5_length_8abf5, fun _ h => absurd h List.not_mem_nil⟩⟩
  | 9 => exact fun _ h => absurd h List.not_mem_nil
  | 10 => exact fun _ h => absurd h List.not_mem_nil
  | 11 => exact fun _ h => absurd h List.not_mem_nil
  | 12 => exact List.forall_mem_cons.mpr ⟨q_k_J4_length_8abf5, List.forall_mem_cons.mpr ⟨q_k_J5_getValue_6d5f1, List.forall_mem_cons.mpr ⟨q_k_J5_isLatin1_aae02, fun _ h => absurd h List.not_mem_nil⟩⟩⟩
  | 13 => exact fun _ h => absurd h List.not_mem_nil
  | 14 => exact fun _ h => absurd h List.not_mem_nil
  | 15 => exact List.forall_mem_cons.mpr ⟨q_k_J5_ensureCapacityInternal_d00df, List.forall_mem_cons.mpr ⟨q_k_J5_newCapacity_0f7a4, List.forall_mem_cons.mpr ⟨q_k_J5_putStringAt_47b60, List.forall_mem_cons.mpr ⟨q_k_J5_inflateIfNeededFor_a7421, fun _ h => absurd h List.not_mem_nil⟩⟩⟩⟩
  | _ + 16 => exact fun _ h => absurd h List.not_mem_nil
theorem q_lst_ok : ∀ o, o < 17 → ∀ x ∈ q_lst o, o = 9 ∧ x.2.1 < 8 ∧ q_six x.2.1 = x.1 ∧ lw_tbl[x.2.2]? = some (.stringRef (q_nm o) x.1 (q_stx x.2.1)) := by decide +kernel
theorem q_ldi_ok : ∀ o, o < 17 → ∀ x ∈ q_ldi o, lw_tbl[x.2.2]? = some (.constant (q_nm o) x.1 x.2.1) := by decide +kernel
theorem q_cln_ok : ∀ o, o < 17 → ∀ x ∈ q_cln o, lw_tbl[x.2]? = some (.methodLink (q_nm o) x.1 ⟨"[B", "clone", "()Ljava/lang/Object;"⟩) := by decide +kernel
theorem q_ckc_ok : ∀ o, o < 17 → ∀ x ∈ q_ckc o, lw_tbl[x.2]? = some (.classLink (q_nm o) x.1 "[B") := by decide +kernel
