/-! tables of the methods, fields and calls, printed by program (wip/whole/gen_03.py) out of what TURN printed -/
/-- a method: its name, its bytes, how many locals, what it answers, its owner, its height in the calls, where its word lies, its handlers -/
abbrev q_M : Type := MethodName × ByteArray × Nat × Option FieldType × Nat × Nat × Nat × List (Nat × Nat × Nat × Nat)
def q_nm : Nat → String
  | 0 => RX0
  | 1 => RX1
  | 2 => RX2
  | 3 => RX3
  | 4 => RX4
  | 5 => RX5
  | 6 => RX6
  | 7 => RX7
  | 8 => RX8
  | 9 => RL
  | 10 => RJ7
  | 11 => RJ9
  | 12 => RJ0
  | 13 => RJ1
  | 14 => RJ3
  | _ => ""
def q_cnm : Nat → String
  | 0 => RX0
  | 1 => RX1
  | 2 => RX2
  | 3 => RX3
  | 4 => RX4
  | 5 => RX5
  | 6 => RX6
  | 7 => RX7
  | 8 => RX8
  | _ => RJ0
def q_T : Nat → u_T
  | 0 => TX0
  | 1 => TX1
  | 2 => TX2
  | 3 => TX3
  | 4 => TX4
  | 5 => TX5
  | 6 => TX6
  | 7 => TX7
  | 8 => TX8
  | _ => TJ0
def q_N : Nat → Nat
  | 0 => 9
  | 1 => 3
  | 2 => 4
  | 3 => 5
  | 4 => 8
  | 5 => 7
  | 6 => 10
  | 7 => 10
  | 8 => 20
  | _ => 2
def q_ty : Nat → Nat → FieldType
  | 0 => tyX0
  | 1 => tyX1
  | 2 => tyX2
  | 3 => tyX3
  | 4 => tyX4
  | 5 => tyX5
  | 6 => tyX6
  | 7 => tyX7
  | 8 => tyX8
  | _ => tyJ0
def q_cls : List vw_C := [(RX0, TX0, 9), (RX1, TX1, 3), (RX2, TX2, 4), (RX3, TX3, 5), (RX4, TX4, 8), (RX5, TX5, 7), (RX6, TX6, 10), (RX7, TX7, 10), (RX8, TX8, 20)]
abbrev q_m_J0_coder_7d493 : q_M := (yJ0_coder_7d493, cJ0_coder_7d493, 1, some .byte, 12, 0, 1663, [])
abbrev q_m_J0_isLatin1_aae02 : q_M := (yJ0_isLatin1_aae02, cJ0_isLatin1_aae02, 1, some .boolean, 12, 0, 1534, [])
abbrev q_m_J1_canEncode_9a6ad : q_M := (yJ1_canEncode_9a6ad, cJ1_canEncode_9a6ad, 1, some .boolean, 13, 0, 1669, [])
abbrev q_m_J1_indexOfChar_4cfef : q_M := (yJ1_indexOfChar_4cfef, cJ1_indexOfChar_4cfef, 6, some .int, 13, 0, 1674, [])
abbrev q_m_J3_checkIndex_8e157 : q_M := (yJ3_checkIndex_8e157, cJ3_checkIndex_8e157, 3, some .int, 14, 0, 1547, [])
abbrev q_m_J7_fill_53178 : q_M := (yJ7_fill_53178, cJ7_fill_53178, 4, none, 10, 0, 800, [])
abbrev q_m_J7_fill_d0a16 : q_M := (yJ7_fill_d0a16, cJ7_fill_d0a16, 5, none, 10, 0, 776, [])
abbrev q_m_X0_isBetter : q_M := (yX0_isBetter, cX0_isBetter, 5, some .boolean, 0, 0, 1168, [])
abbrev q_m_X0_noteRound : q_M := (yX0_noteRound, cX0_noteRound, 5, none, 0, 0, 1039, [])
abbrev q_m_X2_canEndRow : q_M := (yX2_canEndRow, cX2_canEndRow, 2, some .boolean, 2, 0, 510, [])
abbrev q_m_X2_canGrowRow : q_M := (yX2_canGrowRow, cX2_canGrowRow, 2, some .boolean, 2, 0, 523, [])
abbrev q_m_X2_endRow : q_M := (yX2_endRow, cX2_endRow, 2, none, 2, 0, 514, [])
abbrev q_m_X2_isFull : q_M := (yX2_isFull, cX2_isFull, 1, some .boolean, 2, 0, 421, [])
abbrev q_m_X2_kindOf : q_M := (yX2_kindOf, cX2_kindOf, 2, some .int, 2, 0, 517, [])
abbrev q_m_X3_begin : q_M := (yX3_begin, cX3_begin, 5, none, 3, 0, 667, [])
abbrev q_m_X3_isNextLine : q_M := (yX3_isNextLine, cX3_isNextLine, 2, some .boolean, 3, 0, 886, [])
abbrev q_m_X3_linesLeft : q_M := (yX3_linesLeft, cX3_linesLeft, 1, some .int, 3, 0, 695, [])
abbrev q_m_X4_canEndAt : q_M := (yX4_canEndAt, cX4_canEndAt, 3, some .boolean, 4, 0, 824, [])
abbrev q_m_X4_isTaken : q_M := (yX4_isTaken, cX4_isTaken, 3, some .boolean, 4, 0, 816, [])
abbrev q_m_X4_stepsOfPath : q_M := (yX4_stepsOfPath, cX4_stepsOfPath, 5, some .int, 4, 0, 836, [])
abbrev q_m_X4_tracePath : q_M := (yX4_tracePath, cX4_tracePath, 4, none, 4, 0, 828, [])
abbrev q_m_X5_begin : q_M := (yX5_begin, cX5_begin, 3, none, 5, 0, 624, [])
abbrev q_m_X5_cellAhead : q_M := (yX5_cellAhead, cX5_cellAhead, 3, some .int, 5, 0, 601, [])
abbrev q_m_X5_follow : q_M := (yX5_follow, cX5_follow, 5, none, 5, 0, 848, [])
abbrev q_m_X6_cellCount : q_M := (yX6_cellCount, cX6_cellCount, 1, some .int, 6, 0, 555, [])
abbrev q_m_X6_columnOf : q_M := (yX6_columnOf, cX6_columnOf, 2, some .int, 6, 0, 808, [])
abbrev q_m_X6_isOrder : q_M := (yX6_isOrder, cX6_isOrder, 2, some .boolean, 6, 0, 682, [])
abbrev q_m_X6_isRobot : q_M := (yX6_isRobot, cX6_isRobot, 2, some .boolean, 6, 0, 593, [])
abbrev q_m_X7_faultPosition : q_M := (yX7_faultPosition, cX7_faultPosition, 1, some .int, 7, 0, 391, [])
abbrev q_m_X7_refuse : q_M := (yX7_refuse, cX7_refuse, 3, some .boolean, 7, 0, 576, [])
abbrev q_m_X7_signOf : q_M := (yX7_signOf, cX7_signOf, 1, some .char, 7, 0, 968, [])
abbrev q_m_X8_append : q_M := (yX8_append, cX8_append, 2, some .int, 8, 0, 1639, [])
abbrev q_m_X8_at : q_M := (yX8_at, cX8_at, 1, some .int, 8, 0, 1377, [])
abbrev q_m_X8_canEnter : q_M := (yX8_canEnter, cX8_canEnter, 2, some .boolean, 8, 0, 1362, [])
abbrev q_m_X8_cells : q_M := (yX8_cells, cX8_cells, 1, some .int, 8, 0, 1351, [])
abbrev q_m_X8_faultPosition : q_M := (yX8_faultPosition, cX8_faultPosition, 1, some .int, 8, 0, 1713, [])
abbrev q_m_X8_in : q_M := (yX8_in, cX8_in, 3, some .boolean, 8, 0, 1354, [])
abbrev q_m_X8_mostOf : q_M := (yX8_mostOf, cX8_mostOf, 1, some .int, 8, 0, 1436, [])
abbrev q_m_X8_order : q_M := (yX8_order, cX8_order, 1, some .int, 8, 0, 1393, [])
abbrev q_m_X8_reason : q_M := (yX8_reason, cX8_reason, 2, some .int, 8, 0, 1623, [])
abbrev q_m_X8_refuse : q_M := (yX8_refuse, cX8_refuse, 3, some .int, 8, 0, 1358, [])
abbrev q_m_X8_thrown : q_M := (yX8_thrown, cX8_thrown, 1, some .int, 8, 0, 1339, [])
abbrev q_m_J0_checkIndex_df160 : q_M := (yJ0_checkIndex_df160, cJ0_checkIndex_df160, 2, none, 12, 1, 1542, [])
abbrev q_m_J0_length_8abf5 : q_M := (yJ0_length_8abf5, cJ0_length_8abf5, 1, some .int, 12, 1, 1659, [])
abbrev q_m_J1_indexOf_4cfef : q_M := (yJ1_indexOf_4cfef, cJ1_indexOf_4cfef, 4, some .int, 13, 1, 1666, [])
abbrev q_m_X0_init : q_M := (yX0_init, cX0_init, 2, none, 0, 1, 292, [])
abbrev q_m_X2_findFault : q_M := (yX2_findFault, cX2_findFault, 4, some .int, 2, 1, 506, [])
abbrev q_m_X2_init : q_M := (yX2_init, cX2_init, 1, none, 2, 1, 267, [])
abbrev q_m_X2_take : q_M := (yX2_take, cX2_take, 2, none, 2, 1, 493, [])
abbrev q_m_X3_copyFrom : q_M := (yX3_copyFrom, cX3_copyFrom, 2, none, 3, 1, 408, [])
abbrev q_m_X3_init : q_M := (yX3_init, cX3_init, 1, none, 3, 1, 163, [])
abbrev q_m_X4_changesPlaces : q_M := (yX4_changesPlaces, cX4_changesPlaces, 6, some .boolean, 4, 1, 820, [])
abbrev q_m_X4_horizon : q_M := (yX4_horizon, cX4_horizon, 1, some .int, 4, 1, 796, [])
abbrev q_m_X4_init : q_M := (yX4_init, cX4_init, 2, none, 4, 1, 329, [])
abbrev q_m_X5_charge : q_M := (yX5_charge, cX5_charge, 2, none, 5, 1, 891, [])
abbrev q_m_X5_copyFrom : q_M := (yX5_copyFrom, cX5_copyFrom, 2, none, 5, 1, 403, [])
abbrev q_m_X5_goOn : q_M := (yX5_goOn, cX5_goOn, 3, none, 5, 1, 878, [])
abbrev q_m_X5_init : q_M := (yX5_init, cX5_init, 1, none, 5, 1, 118, [])
abbrev q_m_X5_isEverIn : q_M := (yX5_isEverIn, cX5_isEverIn, 3, some .boolean, 5, 1, 597, [])
abbrev q_m_X5_lastCell : q_M := (yX5_lastCell, cX5_lastCell, 1, some .int, 5, 1, 789, [])
abbrev q_m_X6_batterySum : q_M := (yX6_batterySum, cX6_batterySum, 3, some .int, 6, 1, 1250, [])
abbrev q_m_X6_dropRobot : q_M := (yX6_dropRobot, cX6_dropRobot, 4, none, 6, 1, 640, [])
abbrev q_m_X6_freeRobot : q_M := (yX6_freeRobot, cX6_freeRobot, 3, some .int, 6, 1, 710, [])
abbrev q_m_X6_isCell : q_M := (yX6_isCell, cX6_isCell, 2, some .boolean, 6, 1, 571, [])
abbrev q_m_X6_isLoaded : q_M := (yX6_isLoaded, cX6_isLoaded, 3, some .boolean, 6, 1, 844, [])
abbrev q_m_X6_isRankedBefore : q_M := (yX6_isRankedBefore, cX6_isRankedBefore, 3, some .boolean, 6, 1, 1151, [])
abbrev q_m_X6_latenessSum : q_M := (yX6_latenessSum, cX6_latenessSum, 3, some .int, 6, 1, 1224, [])
abbrev q_m_X6_neighbor : q_M := (yX6_neighbor, cX6_neighbor, 3, some .int, 6, 1, 804, [])
abbrev q_m_X6_pickedSum : q_M := (yX6_pickedSum, cX6_pickedSum, 3, some .int, 6, 1, 1246, [])
abbrev q_m_X6_putOrder : q_M := (yX6_putOrder, cX6_putOrder, 6, some .int, 6, 1, 663, [])
abbrev q_m_X6_putRobot : q_M := (yX6_putRobot, cX6_putRobot, 4, some .int, 6, 1, 620, [])
abbrev q_m_X6_rebuild : q_M := (yX6_rebuild, cX6_rebuild, 5, none, 6, 1, 550, [])
abbrev q_m_X6_robotThere : q_M := (yX6_robotThere, cX6_robotThere, 4, some .int, 6, 1, 951, [])
abbrev q_m_X6_robotWith : q_M := (yX6_robotWith, cX6_robotWith, 3, some .int, 6, 1, 691, [])
abbrev q_m_X6_stepSum : q_M := (yX6_stepSum, cX6_stepSum, 3, some .int, 6, 1, 1242, [])
abbrev q_m_X7_refusesPass : q_M := (yX7_refusesPass, cX7_refusesPass, 2, some .boolean, 7, 1, 870, [])
abbrev q_m_X7_refusesRelease : q_M := (yX7_refusesRelease, cX7_refusesRelease, 2, some .boolean, 7, 1, 706, [])
abbrev q_m_X7_refusesSet : q_M := (yX7_refusesSet, cX7_refusesSet, 3, some .boolean, 7, 1, 747, [])
abbrev q_m_X7_refusesTakeOff : q_M := (yX7_refusesTakeOff, cX7_refusesTakeOff, 2, some .boolean, 7, 1, 635, [])
abbrev q_m_X8_beside : q_M := (yX8_beside, cX8_beside, 5, some .int, 8, 1, 1452, [])
abbrev q_m_X8_change : q_M := (yX8_change, cX8_change, 1, none, 8, 1, 1381, [])
abbrev q_m_X8_closedCells : q_M := (yX8_closedCells, cX8_closedCells, 3, some .int, 8, 1, 1425, [])
abbrev q_m_X8_get : q_M := (yX8_get, cX8_get, 3, some .int, 8, 1, 1413, [])
abbrev q_m_X8_init : q_M := (yX8_init, cX8_init, 1, none, 8, 1, 1273, [])
abbrev q_m_X8_isCell : q_M := (yX8_isCell, cX8_isCell, 2, some .boolean, 8, 1, 1347, [])
abbrev q_m_X8_isOrder : q_M := (yX8_isOrder, cX8_isOrder, 2, some .boolean, 8, 1, 1405, [])
abbrev q_m_X8_isRobot : q_M := (yX8_isRobot, cX8_isRobot, 2, some .boolean, 8, 1, 1390, [])
abbrev q_m_X8_of : q_M := (yX8_of, cX8_of, 3, some .int, 8, 1, 1374, [])
abbrev q_m_X8_restore : q_M := (yX8_restore, cX8_restore, 1, some .int, 8, 1, 1725, [])
abbrev q_m_X8_save : q_M := (yX8_save, cX8_save, 1, some .int, 8, 1, 1721, [])
abbrev q_m_X8_undo : q_M := (yX8_undo, cX8_undo, 1, some .int, 8, 1, 1717, [])
abbrev q_m_J0_indexOf_7cf53 : q_M := (yJ0_indexOf_7cf53, cJ0_indexOf_7cf53, 3, some .int, 12, 2, 1655, [])
abbrev q_m_J1_charAt_3b067 : q_M := (yJ1_charAt_3b067, cJ1_charAt_3b067, 2, some .char, 13, 2, 1539, [])
abbrev q_m_X0_stepsTo : q_M := (yX0_stepsTo, cX0_stepsTo, 2, some .int, 0, 2, 993, [])
abbrev q_m_X5_lastTickIn : q_M := (yX5_lastTickIn, cX5_lastTickIn, 3, some .int, 5, 2, 785, [])
abbrev q_m_X6_canEnter : q_M := (yX6_canEnter, cX6_canEnter, 2, some .boolean, 6, 2, 580, [])
abbrev q_m_X6_closedCount : q_M := (yX6_closedCount, cX6_closedCount, 3, some .int, 6, 2, 725, [])
abbrev q_m_X6_copyFrom : q_M := (yX6_copyFrom, cX6_copyFrom, 3, none, 6, 2, 399, [])
abbrev q_m_X6_endPlan : q_M := (yX6_endPlan, cX6_endPlan, 3, some .int, 6, 2, 882, [])
abbrev q_m_X6_init : q_M := (yX6_init, cX6_init, 2, none, 6, 2, 111, [])
abbrev q_m_X6_isCellOrNone : q_M := (yX6_isCellOrNone, cX6_isCellOrNone, 2, some .boolean, 6, 2, 655, [])
abbrev q_m_X6_loadedCount : q_M := (yX6_loadedCount, cX6_loadedCount, 3, some .int, 6, 2, 1213, [])
abbrev q_m_X6_lowestRobotEverIn : q_M := (yX6_lowestRobotEverIn, cX6_lowestRobotEverIn, 4, some .int, 6, 2, 589, [])
abbrev q_m_X6_stateOf : q_M := (yX6_stateOf, cX6_stateOf, 2, some .int, 6, 2, 686, [])
abbrev q_m_X6_stepCost : q_M := (yX6_stepCost, cX6_stepCost, 2, some .int, 6, 2, 840, [])
abbrev q_m_X7_refusesLine : q_M := (yX7_refusesLine, cX7_refusesLine, 2, some .boolean, 7, 2, 659, [])
abbrev q_m_X7_refusesOpen : q_M := (yX7_refusesOpen, cX7_refusesOpen, 2, some .boolean, 7, 2, 736, [])
abbrev q_m_X8_cellOf : q_M := (yX8_cellOf, cX8_cellOf, 4, some .int, 8, 2, 1370, [])
abbrev q_m_X8_distanceAgain : q_M := (yX8_distanceAgain, cX8_distanceAgain, 8, some .int, 8, 2, 1505, [])
abbrev q_m_X8_ends : q_M := (yX8_ends, cX8_ends, 5, some .int, 8, 2, 1489, [])
abbrev q_m_X8_findFar : q_M := (yX8_findFar, cX8_findFar, 6, none, 8, 2, 1501, [])
abbrev q_m_X8_isAhead : q_M := (yX8_isAhead, cX8_isAhead, 4, some .boolean, 8, 2, 1603, [])
abbrev q_m_X8_isLoaded : q_M := (yX8_isLoaded, cX8_isLoaded, 2, some .boolean, 8, 2, 1464, [])
abbrev q_m_X8_line : q_M := (yX8_line, cX8_line, 3, some .int, 8, 2, 1595, [])
abbrev q_m_X8_open : q_M := (yX8_open, cX8_open, 2, some .int, 8, 2, 1429, [])
abbrev q_m_X8_order_ : q_M := (yX8_order_, cX8_order_, 7, some .int, 8, 2, 1397, [])
abbrev q_m_X8_overRobots : q_M := (yX8_overRobots, cX8_overRobots, 4, some .int, 8, 2, 1635, [])
abbrev q_m_X8_release : q_M := (yX8_release, cX8_release, 3, some .int, 8, 2, 1417, [])
abbrev q_m_X8_set : q_M := (yX8_set, cX8_set, 4, some .int, 8, 2, 1433, [])
abbrev q_m_X8_stateOf : q_M := (yX8_stateOf, cX8_stateOf, 2, some .int, 8, 2, 1409, [])
abbrev q_m_X8_takeOff : q_M := (yX8_takeOff, cX8_takeOff, 3, some .int, 8, 2, 1386, [])
abbrev q_m_J0_charAt_5068e : q_M := (yJ0_charAt_5068e, cJ0_charAt_5068e, 2, some .char, 12, 3, 1530, [])
abbrev q_m_J0_indexOf_0f7a4 : q_M := (yJ0_indexOf_0f7a4, cJ0_indexOf_0f7a4, 2, some .int, 12, 3, 1651, [])
abbrev q_m_X0_measureFrom : q_M := (yX0_measureFrom, cX0_measureFrom, 7, none, 0, 3, 985, [])
abbrev q_m_X0_nearOfNeighbors : q_M := (yX0_nearOfNeighbors, cX0_nearOfNeighbors, 6, some .long, 0, 3, 1035, [])
abbrev q_m_X0_openCells : q_M := (yX0_openCells, cX0_openCells, 4, some .long, 0, 3, 1027, [])
abbrev q_m_X1_giveBack : q_M := (yX1_giveBack, cX1_giveBack, 2, none, 1, 3, 1261, [])
abbrev q_m_X1_init : q_M := (yX1_init, cX1_init, 2, none, 1, 3, 247, [])
abbrev q_m_X1_keep : q_M := (yX1_keep, cX1_keep, 2, none, 1, 3, 542, [])
abbrev q_m_X4_canStep : q_M := (yX4_canStep, cX4_canStep, 4, some .boolean, 4, 3, 812, [])
abbrev q_m_X4_noteOther : q_M := (yX4_noteOther, cX4_noteOther, 3, none, 4, 3, 780, [])
abbrev q_m_X6_enteredNeighbors : q_M := (yX6_enteredNeighbors, cX6_enteredNeighbors, 4, some .int, 6, 3, 956, [])
abbrev q_m_X6_ordersIn : q_M := (yX6_ordersIn, cX6_ordersIn, 4, some .int, 6, 3, 1138, [])
abbrev q_m_X6_tick : q_M := (yX6_tick, cX6_tick, 4, some .int, 6, 3, 874, [])
abbrev q_m_X6_waitingBefore : q_M := (yX6_waitingBefore, cX6_waitingBefore, 4, some .int, 6, 3, 1147, [])
abbrev q_m_X7_refusesAssign : q_M := (yX7_refusesAssign, cX7_refusesAssign, 3, some .boolean, 7, 3, 678, [])
abbrev q_m_X7_refusesFound : q_M := (yX7_refusesFound, cX7_refusesFound, 4, some .boolean, 7, 3, 832, [])
abbrev q_m_X7_refusesGoal : q_M := (yX7_refusesGoal, cX7_refusesGoal, 3, some .boolean, 7, 3, 762, [])
abbrev q_m_X7_refusesOrder : q_M := (yX7_refusesOrder, cX7_refusesOrder, 5, some .boolean, 7, 3, 651, [])
abbrev q_m_X7_refusesRobotsCell : q_M := (yX7_refusesRobotsCell, cX7_refusesRobotsCell, 4, some .boolean, 7, 3, 585, [])
abbrev q_m_X7_save : q_M := (yX7_save, cX7_save, 1, some .int, 7, 3, 395, [])
abbrev q_m_X8_assign : q_M := (yX8_assign, cX8_assign, 3, some .int, 8, 3, 1401, [])
abbrev q_m_X8_farOf : q_M := (yX8_farOf, cX8_farOf, 3, some .int, 8, 3, 1497, [])
abbrev q_m_X8_farthest : q_M := (yX8_farthest, cX8_farthest, 4, some .int, 8, 3, 1513, [])
abbrev q_m_X8_lateness : q_M := (yX8_lateness, cX8_lateness, 4, some .double, 8, 3, 1619, [])
abbrev q_m_X8_loaded : q_M := (yX8_loaded, cX8_loaded, 3, some .float, 8, 3, 1615, [])
abbrev q_m_X8_mayGo : q_M := (yX8_mayGo, cX8_mayGo, 7, some .boolean, 8, 3, 1456, [])
abbrev q_m_X8_orderOf : q_M := (yX8_orderOf, cX8_orderOf, 3, some .int, 8, 3, 1591, [])
abbrev q_m_X8_overOrders : q_M := (yX8_overOrders, cX8_overOrders, 4, some .int, 8, 3, 1631, [])
abbrev q_m_X8_planned : q_M := (yX8_planned, cX8_planned, 3, some .int, 8, 3, 1574, [])
abbrev q_m_X8_reach : q_M := (yX8_reach, cX8_reach, 4, some .int, 8, 3, 1509, [])
abbrev q_m_X8_robotIn : q_M := (yX8_robotIn, cX8_robotIn, 5, some .int, 8, 3, 1521, [])
abbrev q_m_X8_robotOf : q_M := (yX8_robotOf, cX8_robotOf, 3, some .int, 8, 3, 1570, [])
abbrev q_m_X8_tick : q_M := (yX8_tick, cX8_tick, 5, some .int, 8, 3, 1484, [])
abbrev q_m_X8_waiting : q_M := (yX8_waiting, cX8_waiting, 7, some .int, 8, 3, 1599, [])
abbrev q_m_X8_willBe : q_M := (yX8_willBe, cX8_willBe, 7, some .int, 8, 3, 1366, [])
abbrev q_m_X0_between : q_M := (yX0_between, cX0_between, 3, some .int, 0, 4, 981, [])
abbrev q_m_X0_countFrom : q_M := (yX0_countFrom, cX0_countFrom, 4, some .int, 0, 4, 1051, [])
abbrev q_m_X0_farthestFrom : q_M := (yX0_farthestFrom, cX0_farthestFrom, 4, some .int, 0, 4, 1062, [])
abbrev q_m_X0_fillTable : q_M := (yX0_fillTable, cX0_fillTable, 6, none, 0, 4, 1031, [])
abbrev q_m_X0_toNearestStation : q_M := (yX0_toNearestStation, cX0_toNearestStation, 5, some .int, 0, 4, 1183, [])
abbrev q_m_X4_canComeTo : q_M := (yX4_canComeTo, cX4_canComeTo, 7, some .boolean, 4, 4, 1112, [])
abbrev q_m_X4_prepare : q_M := (yX4_prepare, cX4_prepare, 4, some .boolean, 4, 4, 770, [])
abbrev q_m_X6_waitingOrder : q_M := (yX6_waitingOrder, cX6_waitingOrder, 3, some .int, 6, 4, 1143, [])
abbrev q_m_X7_init : q_M := (yX7_init, cX7_init, 1, none, 7, 4, 103, [])
abbrev q_m_X7_refusesAdd : q_M := (yX7_refusesAdd, cX7_refusesAdd, 3, some .boolean, 7, 4, 567, [])
abbrev q_m_X7_refusesCancel : q_M := (yX7_refusesCancel, cX7_refusesCancel, 2, some .boolean, 7, 4, 859, [])
abbrev q_m_X7_refusesClose : q_M := (yX7_refusesClose, cX7_refusesClose, 2, some .boolean, 7, 4, 721, [])
abbrev q_m_X8_account : q_M := (yX8_account, cX8_account, 2, some .int, 8, 4, 1627, [])
abbrev q_m_X8_add : q_M := (yX8_add, cX8_add, 6, some .int, 8, 4, 1343, [])
abbrev q_m_X8_canEnd : q_M := (yX8_canEnd, cX8_canEnd, 7, some .boolean, 8, 4, 1460, [])
abbrev q_m_X8_cancel : q_M := (yX8_cancel, cX8_cancel, 4, some .int, 8, 4, 1476, [])
abbrev q_m_X8_cell : q_M := (yX8_cell, cX8_cell, 6, some .int, 8, 4, 1517, [])
abbrev q_m_X8_close : q_M := (yX8_close, cX8_close, 3, some .int, 8, 4, 1421, [])
abbrev q_m_X8_distance : q_M := (yX8_distance, cX8_distance, 4, some .int, 8, 4, 1493, [])
abbrev q_m_X8_findComing : q_M := (yX8_findComing, cX8_findComing, 6, none, 8, 4, 1448, [])
abbrev q_m_X8_findGoing : q_M := (yX8_findGoing, cX8_findGoing, 9, none, 8, 4, 1472, [])
abbrev q_m_X8_letter : q_M := (yX8_letter, cX8_letter, 3, some .char, 8, 4, 1525, [])
abbrev q_m_X8_pass : q_M := (yX8_pass, cX8_pass, 4, some .int, 8, 4, 1480, [])
abbrev q_m_X8_reserved : q_M := (yX8_reserved, cX8_reserved, 3, some .int, 8, 4, 1578, [])
abbrev q_m_X8_suited : q_M := (yX8_suited, cX8_suited, 6, some .int, 8, 4, 1607, [])
abbrev q_m_X8_tour : q_M := (yX8_tour, cX8_tour, 8, some .int, 8, 4, 1611, [])
abbrev q_m_X8_wrongPlace : q_M := (yX8_wrongPlace, cX8_wrongPlace, 5, some .int, 8, 4, 1647, [])
abbrev q_m_X0_bestRobotFor : q_M := (yX0_bestRobotFor, cX0_bestRobotFor, 6, some .int, 0, 5, 1162, [])
abbrev q_m_X0_renewTable : q_M := (yX0_renewTable, cX0_renewTable, 3, none, 0, 5, 1023, [])
abbrev q_m_X0_through : q_M := (yX0_through, cX0_through, 6, some .int, 0, 5, 1179, [])
abbrev q_m_X4_cellsAfter : q_M := (yX4_cellsAfter, cX4_cellsAfter, 7, some .long, 4, 5, 1108, [])
abbrev q_m_X4_findFirst : q_M := (yX4_findFirst, cX4_findFirst, 11, some .int, 4, 5, 766, [])
abbrev q_m_X8_fewest : q_M := (yX8_fewest, cX8_fewest, 4, some .int, 8, 5, 1444, [])
abbrev q_m_X8_findPath : q_M := (yX8_findPath, cX8_findPath, 9, some .int, 8, 5, 1468, [])
abbrev q_m_X8_layout : q_M := (yX8_layout, cX8_layout, 4, some .int, 8, 5, 1643, [])
abbrev q_m_X0_betweenByTable : q_M := (yX0_betweenByTable, cX0_betweenByTable, 3, some .int, 0, 6, 1019, [])
abbrev q_m_X4_findTickByTick : q_M := (yX4_findTickByTick, cX4_findTickByTick, 7, some .int, 4, 6, 1104, [])
abbrev q_m_X8_arrival : q_M := (yX8_arrival, cX8_arrival, 4, some .int, 8, 6, 1582, [])
abbrev q_m_X8_plan : q_M := (yX8_plan, cX8_plan, 6, some .int, 8, 6, 1440, [])
abbrev q_m_X7_account : q_M := (yX7_account, cX7_account, 2, some .int, 7, 7, 1238, [])
abbrev q_m_X7_add : q_M := (yX7_add, cX7_add, 3, some .int, 7, 7, 563, [])
abbrev q_m_X7_append : q_M := (yX7_append, cX7_append, 2, some .int, 7, 7, 417, [])
abbrev q_m_X7_arrival : q_M := (yX7_arrival, cX7_arrival, 4, some .int, 7, 7, 1093, [])
abbrev q_m_X7_arrivalAgain : q_M := (yX7_arrivalAgain, cX7_arrivalAgain, 4, some .int, 7, 7, 1100, [])
abbrev q_m_X7_assign : q_M := (yX7_assign, cX7_assign, 3, some .int, 7, 7, 674, [])
abbrev q_m_X7_cancel : q_M := (yX7_cancel, cX7_cancel, 3, some .int, 7, 7, 855, [])
abbrev q_m_X7_cell : q_M := (yX7_cell, cX7_cell, 3, some .int, 7, 7, 932, [])
abbrev q_m_X7_close : q_M := (yX7_close, cX7_close, 2, some .int, 7, 7, 717, [])
abbrev q_m_X7_distance : q_M := (yX7_distance, cX7_distance, 4, some .int, 7, 7, 977, [])
abbrev q_m_X7_distanceAgain : q_M := (yX7_distanceAgain, cX7_distanceAgain, 4, some .int, 7, 7, 1015, [])
abbrev q_m_X7_farthest : q_M := (yX7_farthest, cX7_farthest, 2, some .int, 7, 7, 1058, [])
abbrev q_m_X7_lateness : q_M := (yX7_lateness, cX7_lateness, 2, some .double, 7, 7, 1220, [])
abbrev q_m_X7_layout : q_M := (yX7_layout, cX7_layout, 1, some .int, 7, 7, 502, [])
abbrev q_m_X7_letter : q_M := (yX7_letter, cX7_letter, 3, some .char, 7, 7, 965, [])
abbrev q_m_X7_line : q_M := (yX7_line, cX7_line, 3, some .int, 7, 7, 1127, [])
abbrev q_m_X7_loaded : q_M := (yX7_loaded, cX7_loaded, 1, some .float, 7, 7, 1204, [])
abbrev q_m_X7_open : q_M := (yX7_open, cX7_open, 2, some .int, 7, 7, 732, [])
abbrev q_m_X7_order : q_M := (yX7_order, cX7_order, 5, some .int, 7, 7, 647, [])
abbrev q_m_X7_orderOf : q_M := (yX7_orderOf, cX7_orderOf, 4, some .int, 7, 7, 1119, [])
abbrev q_m_X7_pass : q_M := (yX7_pass, cX7_pass, 4, some .int, 7, 7, 866, [])
abbrev q_m_X7_plan : q_M := (yX7_plan, cX7_plan, 4, some .int, 7, 7, 758, [])
abbrev q_m_X7_planned : q_M := (yX7_planned, cX7_planned, 3, some .int, 7, 7, 1078, [])
abbrev q_m_X7_reach : q_M := (yX7_reach, cX7_reach, 2, some .int, 7, 7, 1047, [])
abbrev q_m_X7_reason : q_M := (yX7_reason, cX7_reason, 2, some .int, 7, 7, 1231, [])
abbrev q_m_X7_release : q_M := (yX7_release, cX7_release, 2, some .int, 7, 7, 702, [])
abbrev q_m_X7_reserved : q_M := (yX7_reserved, cX7_reserved, 3, some .int, 7, 7, 1086, [])
abbrev q_m_X7_restore : q_M := (yX7_restore, cX7_restore, 1, some .int, 7, 7, 1268, [])
abbrev q_m_X7_robotOf : q_M := (yX7_robotOf, cX7_robotOf, 4, some .int, 7, 7, 1069, [])
abbrev q_m_X7_set : q_M := (yX7_set, cX7_set, 4, some .int, 7, 7, 743, [])
abbrev q_m_X7_suited : q_M := (yX7_suited, cX7_suited, 3, some .int, 7, 7, 1158, [])
abbrev q_m_X7_takeOff : q_M := (yX7_takeOff, cX7_takeOff, 2, some .int, 7, 7, 631, [])
abbrev q_m_X7_tour : q_M := (yX7_tour, cX7_tour, 3, some .int, 7, 7, 1175, [])
abbrev q_m_X7_undo : q_M := (yX7_undo, cX7_undo, 1, some .int, 7, 7, 1257, [])
abbrev q_m_X7_waiting : q_M := (yX7_waiting, cX7_waiting, 3, some .int, 7, 7, 1134, [])
abbrev q_m_X8_arrivalAgain : q_M := (yX8_arrivalAgain, cX8_arrivalAgain, 3, some .int, 8, 7, 1586, [])
abbrev q_m_L_account : q_M := (yL_account, cL_account, 4, some .int, 9, 8, 1234, [(0, 9, 12, 19)])
abbrev q_m_L_add : q_M := (yL_add, cL_add, 5, some .int, 9, 8, 558, [(0, 10, 13, 25)])
abbrev q_m_L_append : q_M := (yL_append, cL_append, 4, some .int, 9, 8, 412, [(0, 9, 12, 13)])
abbrev q_m_L_arrival : q_M := (yL_arrival, cL_arrival, 5, some .int, 9, 8, 1089, [(0, 10, 13, 62), (0, 10, 17, 71)])
abbrev q_m_L_arrivalAgain : q_M := (yL_arrivalAgain, cL_arrivalAgain, 5, some .int, 9, 8, 1096, [(0, 10, 13, 62), (0, 10, 17, 71)])
abbrev q_m_L_assign : q_M := (yL_assign, cL_assign, 5, some .int, 9, 8, 670, [(0, 10, 13, 25)])
abbrev q_m_L_cancel : q_M := (yL_cancel, cL_cancel, 4, some .int, 9, 8, 851, [(0, 9, 12, 25)])
abbrev q_m_L_cell : q_M := (yL_cell, cL_cell, 5, some .int, 9, 8, 895, [(0, 10, 13, 62), (0, 10, 17, 19)])
abbrev q_m_L_close : q_M := (yL_close, cL_close, 4, some .int, 9, 8, 713, [(0, 9, 12, 25)])
abbrev q_m_L_distance : q_M := (yL_distance, cL_distance, 5, some .int, 9, 8, 972, [(0, 10, 13, 62), (0, 10, 17, 71)])
abbrev q_m_L_distanceAgain : q_M := (yL_distanceAgain, cL_distanceAgain, 5, some .int, 9, 8, 1011, [(0, 10, 13, 62), (0, 10, 17, 71)])
abbrev q_m_L_farthest : q_M := (yL_farthest, cL_farthest, 4, some .int, 9, 8, 1054, [(0, 9, 12, 62)])
abbrev q_m_L_lateness : q_M := (yL_lateness, cL_lateness, 3, some .int, 9, 8, 1216, [(0, 7, 10, 116)])
abbrev q_m_L_layout : q_M := (yL_layout, cL_layout, 3, some .int, 9, 8, 497, [(0, 8, 11, 19)])
abbrev q_m_L_letter : q_M := (yL_letter, cL_letter, 4, some .int, 9, 8, 961, [(0, 9, 12, 62)])
abbrev q_m_L_line : q_M := (yL_line, cL_line, 5, some .int, 9, 8, 1123, [(0, 10, 13, 62)])
abbrev q_m_L_loaded : q_M := (yL_loaded, cL_loaded, 3, some .int, 9, 8, 1186, [(0, 8, 11, 116)])
abbrev q_m_L_open : q_M := (yL_open, cL_open, 4, some .int, 9, 8, 728, [(0, 9, 12, 25)])
abbrev q_m_L_order : q_M := (yL_order, cL_order, 7, some .int, 9, 8, 643, [(0, 14, 17, 25)])
abbrev q_m_L_orderOf : q_M := (yL_orderOf, cL_orderOf, 5, some .int, 9, 8, 1115, [(0, 10, 13, 62), (0, 10, 17, 19)])
abbrev q_m_L_pass : q_M := (yL_pass, cL_pass, 4, some .int, 9, 8, 862, [(0, 9, 12, 25)])
abbrev q_m_L_plan : q_M := (yL_plan, cL_plan, 5, some .int, 9, 8, 754, [(0, 10, 13, 25)])
abbrev q_m_L_planned : q_M := (yL_planned, cL_planned, 5, some .int, 9, 8, 1074, [(0, 10, 13, 62), (0, 10, 17, 19)])
abbrev q_m_L_reach : q_M := (yL_reach, cL_reach, 4, some .int, 9, 8, 1043, [(0, 9, 12, 62)])
abbrev q_m_L_reason : q_M := (yL_reason, cL_reason, 4, some .int, 9, 8, 1227, [(0, 9, 12, 71)])
abbrev q_m_L_release : q_M := (yL_release, cL_release, 4, some .int, 9, 8, 698, [(0, 9, 12, 25)])
abbrev q_m_L_reserved : q_M := (yL_reserved, cL_reserved, 5, some .int, 9, 8, 1082, [(0, 10, 13, 62), (0, 10, 17, 19)])
abbrev q_m_L_restore : q_M := (yL_restore, cL_restore, 3, some .int, 9, 8, 1264, [(0, 8, 11, 13)])
abbrev q_m_L_robotOf : q_M := (yL_robotOf, cL_robotOf, 5, some .int, 9, 8, 1065, [(0, 10, 13, 62), (0, 10, 17, 19)])
abbrev q_m_L_set : q_M := (yL_set, cL_set, 5, some .int, 9, 8, 739, [(0, 10, 13, 25)])
abbrev q_m_L_suited : q_M := (yL_suited, cL_suited, 4, some .int, 9, 8, 1154, [(0, 9, 12, 62), (0, 9, 15, 71)])
abbrev q_m_L_takeOff : q_M := (yL_takeOff, cL_takeOff, 4, some .int, 9, 8, 627, [(0, 9, 12, 25)])
abbrev q_m_L_tour : q_M := (yL_tour, cL_tour, 4, some .int, 9, 8, 1171, [(0, 9, 12, 62), (0, 9, 15, 71)])
abbrev q_m_L_undo : q_M := (yL_undo, cL_undo, 3, some .int, 9, 8, 1253, [(0, 8, 11, 13)])
abbrev q_m_L_waiting : q_M := (yL_waiting, cL_waiting, 4, some .int, 9, 8, 1130, [(0, 9, 12, 71)])
abbrev q_m_L_law : q_M := (yL_law, code, 9, some .boolean, 9, 9, 0, [])
def q_fl : Nat → List (Nat × (Nat × Nat × Nat))
  | 0 => [(9, (0, 0, 296)), (15, (0, 1, 297)), (19, (0, 2, 298)), (24, (0, 3, 299)), (27, (0, 4, 300)), (31, (0, 5, 301)), (64, (6, 7, 215)), (68, (5, 2, 130)), (74, (5, 0, 122)), (84, (5, 1, 126)), (87, (3, 4, 178)), (92, (3, 1, 169)), (98, (6, 5, 209)), (108, (0, 6, 302)), (111, (6, 0, 197)), (114, (0, 7, 303)), (117, (6, 1, 200)), (120, (0, 8, 304))]
  | 1 => [(11, (1, 0, 252)), (18, (1, 1, 253)), (26, (1, 2, 254))]
  | 2 => [(9, (2, 0, 269)), (15, (2, 1, 271)), (23, (2, 2, 275)), (26, (2, 3, 277))]
  | 3 => [(9, (3, 4, 177)), (15, (3, 3, 174)), (19, (3, 0, 165)), (22, (3, 1, 168)), (25, (3, 2, 171))]
  | 4 => [(9, (4, 0, 331)), (15, (4, 1, 332)), (19, (4, 2, 333)), (22, (4, 3, 334)), (26, (4, 4, 335)), (43, (6, 7, 214)), (49, (4, 5, 337)), (53, (5, 0, 121)), (73, (4, 6, 338)), (94, (4, 7, 339)), (116, (6, 9, 220))]
  | 5 => [(9, (5, 6, 140)), (15, (5, 2, 129)), (19, (5, 0, 120)), (22, (5, 1, 125)), (25, (5, 3, 133)), (28, (5, 4, 136)), (31, (5, 5, 139))]
  | 6 => [(9, (6, 0, 196)), (15, (6, 1, 199)), (18, (6, 5, 208)), (22, (6, 6, 211)), (28, (6, 7, 213)), (35, (6, 8, 217)), (40, (6, 9, 219)), (52, (6, 2, 202)), (55, (6, 3, 204)), (58, (6, 4, 206)), (68, (2, 2, 274)), (71, (2, 3, 276)), (72, (2, 1, 273)), (75, (2, 0, 270)), (112, (5, 2, 132)), (118, (3, 2, 172)), (127, (3, 3, 175)), (143, (3, 0, 166)), (152, (5, 3, 134)), (155, (5, 1, 128)), (158, (5, 4, 138)), (168, (5, 0, 124))]
  | 7 => [(12, (7, 0, 357)), (16, (7, 1, 358)), (22, (7, 2, 359)), (29, (7, 3, 360)), (38, (7, 4, 361)), (45, (7, 5, 362)), (49, (7, 6, 363)), (53, (7, 7, 364)), (57, (7, 8, 365)), (60, (7, 9, 366)), (74, (2, 1, 272)), (112, (6, 3, 205)), (131, (6, 7, 216)), (135, (5, 2, 131)), (151, (6, 4, 207)), (157, (6, 5, 210)), (164, (6, 8, 218)), (189, (6, 6, 212)), (202, (6, 9, 221)), (220, (4, 4, 336)), (230, (5, 4, 137)), (233, (5, 0, 123)), (239, (5, 1, 127)), (285, (5, 3, 135)), (294, (3, 0, 167)), (297, (3, 1, 170)), (300, (3, 2, 173)), (306, (3, 3, 176)), (309, (3, 4, 179)), (334, (6, 0, 198)), (337, (6, 1, 201)), (340, (6, 2, 203)), (352, (1, 2, 255))]
  | 8 => [(9, (8, 0, 1275)), (13, (8, 1, 1276)), (16, (8, 3, 1278)), (19, (8, 8, 1283)), (22, (8, 9, 1284)), (26, (8, 10, 1285)), (29, (8, 11, 1286)), (32, (8, 12, 1287)), (35, (8, 13, 1288)), (38, (8, 14, 1289)), (41, (8, 15, 1290)), (45, (8, 17, 1292)), (49, (8, 5, 1280)), (52, (8, 4, 1279)), (61, (8, 6, 1281)), (64, (8, 7, 1282)), (192, (8, 16, 1291)), (195, (8, 18, 1293)), (198, (8, 19, 1294)), (207, (8, 2, 1277))]
  | 12 => [(9, (9, 0, 1748)), (15, (9, 1, 1747))]
  | _ => []
def q_cal : Nat → List (Nat × (Nat × Nat × q_M × Nat × Nat × Nat × Nat))
  | 0 => [(34, (1, 1, q_m_X0_measureFrom, 982, 984, 29, 79)), (38, (1, 1, q_m_X0_stepsTo, 990, 992, 30, 79)), (42, (1, 1, q_m_X6_isCell, 987, 569, 570, 73)), (48, (0, 2, q_m_J7_fill_53178, 986, 799, 0, 94)), (54, (1, 2, q_m_X6_neighbor, 988, 802, 803, 73)), (58, (1, 1, q_m_X6_canEnter, 989, 578, 579, 73)), (61, (1, 1, q_m_X6_isRobot, 1163, 591, 592, 73)), (77, (1, 2, q_m_X0_between, 1164, 979, 980, 79)), (80, (1, 4, q_m_X0_isBetter, 1165, 1167, 39, 79)), (95, (1, 1, q_m_X0_toNearestStation, 1180, 1182, 40, 79)), (101, (1, 0, q_m_X0_renewTable, 1020, 1022, 31, 79)), (104, (1, 0, q_m_X0_openCells, 1024, 1026, 32, 79)), (124, (1, 0, q_m_X0_fillTable, 1028, 1030, 33, 79)), (127, (1, 1, q_m_X0_nearOfNeighbors, 1032, 1034, 34, 79)), (133, (0, 3, q_m_X0_noteRound, 1037, 1038, 0, 79))]
  | 1 => [(17, (2, 0, q_m_X6_init, 251, 110, 0, 73)), (22, (1, 1, q_m_X6_copyFrom, 543, 397, 398, 73))]
  | 2 => [(19, (1, 0, q_m_X2_isFull, 494, 419, 420, 78)), (29, (1, 1, q_m_X2_canEndRow, 507, 509, 1, 78)), (33, (1, 1, q_m_X2_endRow, 511, 513, 2, 78)), (37, (0, 1, q_m_X2_kindOf, 515, 516, 0, 78)), (41, (1, 1, q_m_X2_canGrowRow, 520, 522, 3, 78))]
  | 4 => [(29, (1, 2, q_m_X4_prepare, 767, 769, 16, 80)), (33, (0, 2, q_m_J7_fill_53178, 798, 799, 0, 94)), (39, (1, 0, q_m_X4_horizon, 793, 795, 18, 80)), (58, (1, 2, q_m_X6_neighbor, 801, 802, 803, 73)), (62, (1, 3, q_m_X4_canStep, 809, 811, 20, 80)), (66, (1, 2, q_m_X4_canEndAt, 821, 823, 23, 80)), (69, (1, 1, q_m_X4_tracePath, 825, 827, 24, 80)), (76, (1, 2, q_m_X4_cellsAfter, 1105, 1107, 35, 80)), (80, (1, 1, q_m_X6_isCell, 772, 569, 570, 73)), (84, (1, 3, q_m_X4_canComeTo, 1109, 1111, 36, 80)), (88, (1, 1, q_m_X6_isRobot, 771, 591, 592, 73)), (91, (1, 1, q_m_X6_canEnter, 773, 578, 579, 73)), (97, (0, 2, q_m_J7_fill_d0a16, 774, 775, 0, 94)), (100, (1, 1, q_m_X4_noteOther, 777, 779, 17, 80)), (104, (1, 1, q_m_X5_cellAhead, 781, 599, 600, 74)), (108, (1, 1, q_m_X5_lastTickIn, 782, 783, 784, 74)), (122, (1, 2, q_m_X4_isTaken, 813, 815, 21, 80)), (125, (1, 3, q_m_X4_changesPlaces, 817, 819, 22, 80))]
  | 5 => [(40, (1, 1, q_m_X5_cellAhead, 598, 599, 600, 74)), (44, (1, 0, q_m_X5_lastCell, 786, 787, 788, 74))]
  | 6 => [(32, (2, 0, q_m_X5_init, 116, 117, 0, 74)), (39, (2, 0, q_m_X3_init, 161, 162, 0, 75)), (61, (1, 1, q_m_X5_copyFrom, 400, 401, 402, 74)), (65, (1, 1, q_m_X3_copyFrom, 405, 406, 407, 75)), (79, (0, 1, q_m_X2_kindOf, 551, 516, 0, 78)), (83, (1, 0, q_m_X6_cellCount, 572, 553, 554, 73)), (87, (1, 1, q_m_X6_isCell, 581, 569, 570, 73)), (91, (1, 1, q_m_X6_columnOf, 805, 807, 19, 73)), (95, (1, 2, q_m_X6_neighbor, 957, 802, 803, 73)), (99, (1, 1, q_m_X6_canEnter, 958, 578, 579, 73)), (102, (1, 2, q_m_X5_begin, 621, 622, 623, 74)), (106, (1, 1, q_m_X6_isRobot, 590, 591, 592, 73)), (109, (1, 4, q_m_X3_begin, 664, 665, 666, 75)), (115, (1, 1, q_m_X6_isOrder, 687, 680, 681, 73)), (121, (1, 1, q_m_X5_cellAhead, 952, 599, 600, 74)), (124, (1, 1, q_m_X5_isEverIn, 594, 595, 596, 74)), (130, (1, 1, q_m_X6_robotWith, 688, 689, 690, 73)), (133, (1, 1, q_m_X6_stateOf, 1139, 684, 685, 73)), (136, (1, 1, q_m_X6_waitingBefore, 1144, 1146, 37, 73)), (139, (1, 2, q_m_X6_isRankedBefore, 1148, 1150, 38, 73)), (146, (1, 0, q_m_X3_linesLeft, 887, 693, 694, 75)), (149, (1, 1, q_m_X6_isLoaded, 841, 842, 843, 73)), (161, (1, 0, q_m_X5_goOn, 875, 876, 877, 74)), (164, (1, 1, q_m_X6_endPlan, 879, 881, 28, 73)), (171, (1, 1, q_m_X5_charge, 888, 889, 890, 74)), (175, (1, 1, q_m_X3_isNextLine, 883, 884, 885, 75))]
  | 7 => [(11, (2, 0, q_m_X6_init, 109, 110, 0, 73)), (21, (2, 0, q_m_X1_init, 245, 246, 0, 77)), (28, (2, 0, q_m_X2_init, 265, 266, 0, 78)), (35, (2, 1, q_m_X0_init, 290, 291, 0, 79)), (44, (2, 1, q_m_X4_init, 327, 328, 0, 80)), (63, (1, 0, q_m_X2_isFull, 418, 419, 420, 78)), (70, (1, 1, q_m_X2_take, 490, 491, 492, 78)), (77, (1, 0, q_m_X2_findFault, 503, 504, 505, 78)), (84, (1, 1, q_m_X1_keep, 539, 540, 541, 77)), (87, (1, 1, q_m_X6_rebuild, 547, 548, 549, 73)), (91, (1, 0, q_m_X6_cellCount, 552, 553, 554, 73)), (94, (1, 2, q_m_X7_refusesAdd, 564, 566, 4, 72)), (101, (1, 2, q_m_X6_putRobot, 617, 618, 619, 73)), (105, (1, 1, q_m_X6_isCell, 568, 569, 570, 73)), (109, (1, 2, q_m_X7_refuse, 573, 575, 5, 72)), (115, (1, 1, q_m_X6_canEnter, 577, 578, 579, 73)), (118, (1, 2, q_m_X7_refusesRobotsCell, 582, 584, 6, 72)), (121, (1, 1, q_m_X7_refusesTakeOff, 632, 634, 7, 72)), (124, (1, 1, q_m_X6_dropRobot, 637, 638, 639, 73)), (128, (1, 1, q_m_X6_isRobot, 636, 591, 592, 73)), (140, (1, 4, q_m_X7_refusesOrder, 648, 650, 8, 72)), (144, (1, 4, q_m_X6_putOrder, 660, 661, 662, 73)), (148, (1, 1, q_m_X6_isCellOrNone, 652, 653, 654, 73)), (154, (1, 1, q_m_X7_refusesLine, 656, 658, 9, 72)), (161, (1, 2, q_m_X7_refusesAssign, 675, 677, 10, 72)), (168, (1, 0, q_m_X3_linesLeft, 692, 693, 694, 75)), (173, (1, 1, q_m_X6_isOrder, 679, 680, 681, 73)), (176, (1, 1, q_m_X6_stateOf, 683, 684, 685, 73)), (180, (1, 1, q_m_X7_refusesRelease, 703, 705, 11, 72)), (183, (1, 1, q_m_X6_freeRobot, 707, 708, 709, 73)), (186, (1, 1, q_m_X7_refusesClose, 718, 720, 12, 72)), (193, (1, 0, q_m_X6_closedCount, 722, 723, 724, 73)), (196, (1, 1, q_m_X7_refusesOpen, 733, 735, 13, 72)), (199, (1, 2, q_m_X7_refusesSet, 744, 746, 14, 72)), (211, (1, 2, q_m_X7_refusesGoal, 759, 761, 15, 72)), (214, (1, 2, q_m_X4_findFirst, 763, 764, 765, 80)), (217, (1, 2, q_m_X7_refusesFound, 829, 831, 25, 72)), (223, (1, 1, q_m_X6_stepCost, 837, 838, 839, 73)), (226, (1, 3, q_m_X5_follow, 845, 846, 847, 74)), (236, (1, 1, q_m_X4_stepsOfPath, 833, 834, 835, 80)), (242, (1, 1, q_m_X7_refusesCancel, 856, 858, 26, 72)), (245, (1, 1, q_m_X7_refusesPass, 867, 869, 27, 72)), (248, (1, 0, q_m_X6_tick, 871, 872, 873, 73)), (254, (1, 2, q_m_X6_robotThere, 948, 949, 950, 73)), (257, (1, 1, q_m_X6_enteredNeighbors, 953, 954, 955, 73)), (260, (0, 1, q_m_X7_signOf, 966, 967, 0, 72)), (264, (1, 2, q_m_X0_between, 978, 979, 980, 79)), (270, (1, 2, q_m_X0_betweenByTable, 1016, 1017, 1018, 79)), (273, (1, 1, q_m_X0_countFrom, 1048, 1049, 1050, 79)), (276, (1, 1, q_m_X0_farthestFrom, 1059, 1060, 1061, 79)), (279, (1, 0, q_m_X5_lastCell, 1070, 787, 788, 74)), (282, (1, 1, q_m_X6_isLoaded, 1071, 842, 843, 73)), (288, (1, 1, q_m_X5_cellAhead, 1079, 599, 600, 74)), (291, (1, 2, q_m_X4_findTickByTick, 1101, 1102, 1103, 80)), (303, (1, 1, q_m_X6_robotWith, 1120, 689, 690, 73)), (312, (1, 1, q_m_X6_ordersIn, 1135, 1136, 1137, 73)), (315, (1, 1, q_m_X6_waitingOrder, 1140, 1141, 1142, 73)), (318, (1, 1, q_m_X0_bestRobotFor, 1159, 1160, 1161, 79)), (321, (1, 1, q_m_X0_through, 1176, 1177, 1178, 79)), (328, (1, 0, q_m_X6_loadedCount, 1210, 1211, 1212, 73)), (331, (1, 0, q_m_X6_latenessSum, 1221, 1222, 1223, 73)), (343, (1, 0, q_m_X6_stepSum, 1239, 1240, 1241, 73)), (346, (1, 0, q_m_X6_pickedSum, 1243, 1244, 1245, 73)), (349, (1, 0, q_m_X6_batterySum, 1247, 1248, 1249, 73)), (355, (1, 1, q_m_X1_giveBack, 1258, 1259, 1260, 77)), (358, (1, 1, q_m_X6_copyFrom, 396, 397, 398, 73)), (361, (1, 2, q_m_X6_lowestRobotEverIn, 586, 587, 588, 73))]
  | 8 => [(67, (1, 0, q_m_X8_cells, 1348, 1350, 42, 81)), (71, (0, 3, q_m_X8_in, 1352, 1353, 0, 81)), (75, (0, 1, q_m_X8_at, 1375, 1376, 0, 81)), (79, (1, 2, q_m_X8_of, 1371, 1373, 47, 81)), (83, (1, 2, q_m_X8_cellOf, 1367, 1369, 46, 81)), (86, (1, 1, q_m_X8_isCell, 1344, 1346, 41, 81)), (90, (1, 2, q_m_X8_refuse, 1355, 1357, 43, 81)), (93, (1, 1, q_m_X8_canEnter, 1359, 1361, 44, 81)), (96, (1, 3, q_m_X8_willBe, 1363, 1365, 45, 81)), (100, (1, 0, q_m_X8_change, 1378, 1380, 48, 81)), (103, (1, 1, q_m_X8_isRobot, 1387, 1389, 49, 81)), (106, (0, 1, q_m_X8_order, 1391, 1392, 0, 81)), (109, (1, 2, q_m_X8_get, 1410, 1412, 52, 81)), (112, (1, 1, q_m_X8_isOrder, 1402, 1404, 50, 81)), (115, (1, 1, q_m_X8_stateOf, 1406, 1408, 51, 81)), (118, (1, 0, q_m_X8_closedCells, 1422, 1424, 53, 81)), (121, (0, 1, q_m_X8_mostOf, 1434, 1435, 0, 81)), (124, (1, 2, q_m_X8_beside, 1449, 1451, 56, 81)), (127, (1, 4, q_m_X8_mayGo, 1453, 1455, 57, 81)), (131, (1, 1, q_m_X8_findComing, 1445, 1447, 55, 81)), (135, (1, 3, q_m_X8_canEnd, 1457, 1459, 58, 81)), (138, (1, 3, q_m_X8_findGoing, 1469, 1471, 61, 81)), (142, (1, 2, q_m_X8_fewest, 1441, 1443, 54, 81)), (145, (1, 1, q_m_X8_isLoaded, 1461, 1463, 59, 81)), (148, (1, 3, q_m_X8_findPath, 1465, 1467, 60, 81)), (156, (1, 1, q_m_X8_ends, 1486, 1488, 63, 81)), (159, (1, 0, q_m_X8_tick, 1481, 1483, 62, 81)), (162, (1, 1, q_m_X8_findFar, 1498, 1500, 65, 81)), (165, (1, 2, q_m_X8_farOf, 1494, 1496, 64, 81)), (168, (1, 2, q_m_X8_robotIn, 1518, 1520, 66, 81)), (173, (1, 1, q_m_J0_charAt_5068e, 1527, 1528, 1529, 88)), (179, (1, 2, q_m_X8_arrival, 1587, 1580, 1581, 81)), (182, (1, 2, q_m_X8_isAhead, 1600, 1602, 67, 81)), (186, (1, 1, q_m_X8_overOrders, 1628, 1630, 68, 81)), (189, (1, 1, q_m_X8_overRobots, 1632, 1634, 69, 81)), (201, (1, 1, q_m_J0_indexOf_0f7a4, 1648, 1649, 1650, 88)), (204, (1, 0, q_m_X8_wrongPlace, 1644, 1646, 70, 81))]
  | 9 => [(7, (1, 1, q_m_X7_append, 414, 415, 416, 72)), (15, (1, 0, q_m_X7_layout, 499, 500, 501, 72)), (21, (1, 2, q_m_X7_add, 560, 561, 562, 72)), (27, (1, 1, q_m_X7_takeOff, 628, 629, 630, 72)), (31, (1, 4, q_m_X7_order, 644, 645, 646, 72)), (35, (1, 2, q_m_X7_assign, 671, 672, 673, 72)), (38, (1, 1, q_m_X7_release, 699, 700, 701, 72)), (41, (1, 1, q_m_X7_close, 714, 715, 716, 72)), (44, (1, 1, q_m_X7_open, 729, 730, 731, 72)), (47, (1, 2, q_m_X7_set, 740, 741, 742, 72)), (50, (1, 2, q_m_X7_plan, 755, 756, 757, 72)), (53, (1, 1, q_m_X7_cancel, 852, 853, 854, 72)), (56, (1, 1, q_m_X7_pass, 863, 864, 865, 72)), (59, (1, 2, q_m_X7_cell, 929, 930, 931, 72)), (64, (1, 1, q_m_X7_letter, 962, 963, 964, 72)), (68, (1, 2, q_m_X7_distance, 974, 975, 976, 72)), (73, (1, 2, q_m_X7_distanceAgain, 1012, 1013, 1014, 72)), (76, (1, 1, q_m_X7_reach, 1044, 1045, 1046, 72)), (79, (1, 1, q_m_X7_farthest, 1055, 1056, 1057, 72)), (82, (1, 2, q_m_X7_robotOf, 1066, 1067, 1068, 72)), (85, (1, 2, q_m_X7_planned, 1075, 1076, 1077, 72)), (88, (1, 2, q_m_X7_reserved, 1083, 1084, 1085, 72)), (91, (1, 2, q_m_X7_arrival, 1090, 1091, 1092, 72)), (94, (1, 2, q_m_X7_arrivalAgain, 1097, 1098, 1099, 72)), (97, (1, 2, q_m_X7_orderOf, 1116, 1117, 1118, 72)), (100, (1, 2, q_m_X7_line, 1124, 1125, 1126, 72)), (103, (1, 1, q_m_X7_waiting, 1131, 1132, 1133, 72)), (106, (1, 1, q_m_X7_suited, 1155, 1156, 1157, 72)), (109, (1, 1, q_m_X7_tour, 1172, 1173, 1174, 72)), (112, (1, 0, q_m_X7_loaded, 1201, 1202, 1203, 72)), (118, (1, 0, q_m_X7_lateness, 1217, 1218, 1219, 72)), (122, (1, 1, q_m_X7_reason, 1228, 1229, 1230, 72)), (126, (1, 1, q_m_X7_account, 1235, 1236, 1237, 72)), (129, (1, 0, q_m_X7_undo, 1254, 1255, 1256, 72)), (132, (1, 0, q_m_X7_restore, 1265, 1266, 1267, 72)), (135, (2, 0, q_m_X7_init, 101, 102, 0, 72)), (138, (2, 0, q_m_X8_init, 1271, 1272, 0, 81)), (139, (0, 3, q_m_L_append, 410, 411, 0, 71)), (144, (1, 1, q_m_X8_append, 1636, 1637, 1638, 81)), (145, (1, 0, q_m_X8_thrown, 1336, 1337, 1338, 81)), (148, (0, 2, q_m_L_layout, 495, 496, 0, 71)), (151, (1, 0, q_m_X8_layout, 1640, 1641, 1642, 81)), (152, (1, 0, q_m_X7_faultPosition, 388, 389, 390, 72)), (155, (1, 0, q_m_X8_faultPosition, 1710, 1711, 1712, 81)), (156, (0, 4, q_m_L_add, 556, 557, 0, 71)), (159, (1, 2, q_m_X8_add, 1340, 1341, 1342, 81)), (160, (0, 3, q_m_L_takeOff, 625, 626, 0, 71)), (163, (1, 1, q_m_X8_takeOff, 1383, 1384, 1385, 81)), (164, (0, 6, q_m_L_order, 641, 642, 0, 71)), (167, (1, 4, q_m_X8_order_, 1394, 1395, 1396, 81)), (168, (0, 4, q_m_L_assign, 668, 669, 0, 71)), (170, (1, 2, q_m_X8_assign, 1398, 1399, 1400, 81)), (171, (0, 3, q_m_L_release, 696, 697, 0, 71)), (173, (1, 1, q_m_X8_release, 1414, 1415, 1416, 81)), (174, (0, 3, q_m_L_close, 711, 712, 0, 71)), (176, (1, 1, q_m_X8_close, 1418, 1419, 1420, 81)), (177, (0, 3, q_m_L_open, 726, 727, 0, 71)), (179, (1, 1, q_m_X8_open, 1426, 1427, 1428, 81)), (180, (0, 4, q_m_L_set, 737, 738, 0, 71)), (182, (1, 2, q_m_X8_set, 1430, 1431, 1432, 81)), (183, (0, 4, q_m_L_plan, 752, 753, 0, 71)), (185, (1, 2, q_m_X8_plan, 1437, 1438, 1439, 81)), (186, (0, 3, q_m_L_cancel, 849, 850, 0, 71)), (188, (1, 1, q_m_X8_cancel, 1473, 1474, 1475, 81)), (189, (0, 3, q_m_L_pass, 860, 861, 0, 71)), (191, (1, 1, q_m_X8_pass, 1477, 1478, 1479, 81)), (192, (0, 4, q_m_L_cell, 893, 894, 0, 71)), (194, (1, 2, q_m_X8_cell, 1514, 1515, 1516, 81)), (195, (0, 3, q_m_L_letter, 959, 960, 0, 71)), (197, (1, 1, q_m_X8_letter, 1522, 1523, 1524, 81)), (198, (0, 4, q_m_L_distance, 970, 971, 0, 71)), (200, (1, 2, q_m_X8_distance, 1490, 1491, 1492, 81)), (201, (0, 4, q_m_L_distanceAgain, 1009, 1010, 0, 71)), (203, (1, 2, q_m_X8_distanceAgain, 1502, 1503, 1504, 81)), (204, (0, 3, q_m_L_reach, 1041, 1042, 0, 71)), (206, (1, 1, q_m_X8_reach, 1506, 1507, 1508, 81)), (207, (0, 3, q_m_L_farthest, 1052, 1053, 0, 71)), (209, (1, 1, q_m_X8_farthest, 1510, 1511, 1512, 81)), (210, (0, 4, q_m_L_robotOf, 1063, 1064, 0, 71)), (212, (1, 2, q_m_X8_robotOf, 1567, 1568, 1569, 81)), (213, (0, 4, q_m_L_planned, 1072, 1073, 0, 71)), (215, (1, 2, q_m_X8_planned, 1571, 1572, 1573, 81)), (216, (0, 4, q_m_L_reserved, 1080, 1081, 0, 71)), (218, (1, 2, q_m_X8_reserved, 1575, 1576, 1577, 81)), (219, (0, 4, q_m_L_arrival, 1087, 1088, 0, 71)), (221, (1, 2, q_m_X8_arrival, 1579, 1580, 1581, 81)), (222, (0, 4, q_m_L_arrivalAgain, 1094, 1095, 0, 71)), (224, (1, 2, q_m_X8_arrivalAgain, 1583, 1584, 1585, 81)), (225, (0, 4, q_m_L_orderOf, 1113, 1114, 0, 71)), (227, (1, 2, q_m_X8_orderOf, 1588, 1589, 1590, 81)), (228, (0, 4, q_m_L_line, 1121, 1122, 0, 71)), (230, (1, 2, q_m_X8_line, 1592, 1593, 1594, 81)), (231, (0, 3, q_m_L_waiting, 1128, 1129, 0, 71)), (233, (1, 1, q_m_X8_waiting, 1596, 1597, 1598, 81)), (234, (0, 3, q_m_L_suited, 1152, 1153, 0, 71)), (236, (1, 1, q_m_X8_suited, 1604, 1605, 1606, 81)), (237, (0, 3, q_m_L_tour, 1169, 1170, 0, 71)), (239, (1, 1, q_m_X8_tour, 1608, 1609, 1610, 81)), (240, (0, 2, q_m_L_loaded, 1184, 1185, 0, 71)), (243, (1, 0, q_m_X8_loaded, 1612, 1613, 1614, 81)), (244, (0, 2, q_m_L_lateness, 1214, 1215, 0, 71)), (246, (1, 0, q_m_X8_lateness, 1616, 1617, 1618, 81)), (247, (0, 3, q_m_L_reason, 1225, 1226, 0, 71)), (250, (1, 1, q_m_X8_reason, 1620, 1621, 1622, 81)), (251, (0, 3, q_m_L_account, 1232, 1233, 0, 71)), (253, (1, 1, q_m_X8_account, 1624, 1625, 1626, 81)), (254, (0, 2, q_m_L_undo, 1251, 1252, 0, 71)), (256, (1, 0, q_m_X8_undo, 1714, 1715, 1716, 81)), (257, (1, 0, q_m_X7_save, 392, 393, 394, 72)), (260, (1, 0, q_m_X8_save, 1718, 1719, 1720, 81)), (261, (0, 2, q_m_L_restore, 1262, 1263, 0, 71)), (263, (1, 0, q_m_X8_restore, 1722, 1723, 1724, 81))]
  | 12 => [(335, (1, 0, q_m_J0_coder_7d493, 1660, 1661, 1662, 88)), (492, (1, 0, q_m_J0_isLatin1_aae02, 1531, 1532, 1533, 88)), (495, (0, 2, q_m_J1_charAt_3b067, 1537, 1538, 0, 89)), (505, (1, 0, q_m_J0_length_8abf5, 1656, 1657, 1658, 88)), (633, (1, 2, q_m_J0_indexOf_7cf53, 1652, 1653, 1654, 88)), (637, (0, 4, q_m_J1_indexOf_4cfef, 1664, 1665, 0, 89)), (1059, (0, 3, q_m_J3_checkIndex_8e157, 1545, 1546, 0, 91))]
  | 13 => [(9, (0, 2, q_m_J0_checkIndex_df160, 1540, 1541, 0, 88)), (88, (0, 1, q_m_J1_canEncode_9a6ad, 1667, 1668, 0, 89)), (95, (0, 4, q_m_J1_indexOfChar_4cfef, 1672, 1673, 0, 89))]
  | _ => []
def q_new : Nat → List (Nat × (Nat × Nat × Nat × Nat))
  | 1 => [(9, (6, 249, 108, 73))]
  | 6 => [(26, (5, 113, 115, 74)), (33, (3, 158, 160, 75))]
  | 7 => [(9, (6, 107, 108, 73)), (19, (1, 243, 244, 77)), (26, (2, 263, 264, 78)), (33, (0, 288, 289, 79)), (42, (4, 325, 326, 80))]
  | 9 => [(8, (7, 99, 100, 72)), (136, (8, 1269, 1270, 81))]
  | _ => []
def q_exc : Nat → List (Nat × (String × Nat × Nat × Nat))
  | 7 => [(67, ("java/lang/IllegalStateException", 69, 422, 85)), (81, ("java/lang/IllegalArgumentException", 83, 524, 86)), (98, ("java/lang/UnsupportedOperationException", 100, 602, 93)), (251, ("java/lang/IndexOutOfBoundsException", 253, 933, 95)), (267, ("java/util/NoSuchElementException", 269, 994, 97)), (325, ("java/lang/ArithmeticException", 327, 1205, 98))]
  | _ => []
def q_hc : Nat → List (Nat × (String × Nat))
  | 9 => [(13, ("java/lang/IllegalStateException", 413)), (19, ("java/lang/IllegalArgumentException", 498)), (25, ("java/lang/UnsupportedOperationException", 559)), (62, ("java/lang/IndexOutOfBoundsException", 896)), (71, ("java/util/NoSuchElementException", 973)), (116, ("java/lang/ArithmeticException", 1187))]
  | _ => []
def q_cst : List (String × Nat) := [("java/lang/ArithmeticException", 1199), ("java/lang/IllegalArgumentException", 526), ("java/lang/IllegalStateException", 424), ("java/lang/IndexOutOfBoundsException", 935), ("java/lang/UnsupportedOperationException", 604), ("java/util/NoSuchElementException", 996)]
def q_anw : Nat → List (Nat × (Nat × Nat × Nat))
  | 1 => [(9, (7, 249, 250))]
  | 6 => [(26, (5, 113, 114)), (33, (6, 158, 159))]
  | _ => []
def q_acp : Nat → List (Nat × Nat)
  | 0 => [(137, 1040)]
  | 3 => [(28, 409)]
  | 5 => [(34, 404)]
  | 6 => [(46, 193)]
  | 8 => [(55, 1382)]
  | _ => []
def q_mth : Nat → List (Nat × (Nat × Nat × Nat × Nat × Nat))
  | 1 => [(29, (1, 544, 545, 87, 546))]
  | 4 => [(111, (0, 790, 791, 87, 792)), (119, (1, 797, 545, 87, 546))]
  | 5 => [(48, (1, 892, 545, 87, 546))]
  | 8 => [(151, (1, 1485, 545, 87, 546))]
  | 13 => [(38, (1, 1671, 545, 87, 546)), (92, (0, 1670, 791, 87, 792))]
  | _ => []
def q_obi : Nat → List (Nat × Nat)
  | 0 => [(3, 293)]
  | 1 => [(3, 248)]
  | 2 => [(3, 268)]
  | 3 => [(3, 164)]
  | 4 => [(3, 330)]
  | 5 => [(3, 119)]
  | 6 => [(3, 112)]
  | 7 => [(3, 104)]
  | 8 => [(3, 1274)]
  | _ => []
def q_mna : Nat → List (Nat × (Nat × Nat))
  | 0 => [(22, (294, 295))]
  | _ => []
def q_ldl : Nat → List (Nat × (Int64 × Nat))
  | 0 => [(131, (-1, 1036))]
  | _ => []
def q_stf : Nat → List (Nat × (Nat × Nat))
  | 2 => [(44, (3, 518))]
  | 6 => [(43, (0, 191))]
  | 7 => [(205, (1, 748)), (208, (2, 750)), (364, (3, 969))]
  | 12 => [(38, (4, 1535)), (1053, (5, 1543))]
  | _ => []
def q_lk {α : Type} : List (Nat × α) → Nat → Option α
  | [], _ => none
  | (a, b) :: t, k => bif Nat.beq a k then some b else q_lk t k
theorem q_lk_mem {α : Type} {k : Nat} {v : α} : ∀ {l : List (Nat × α)}, q_lk l k = some v → (k, v) ∈ l
  | [], h => by cases h
  | (a, b) :: t, h => by
    unfold q_lk at h
    cases e : Nat.beq a k with
    | true =>
      rw [e] at h
      have e2 : a = k := Nat.eq_of_beq_eq_true e
      have e3 : b = v := Option.some.inj h
      subst e2; subst e3
      exact List.mem_cons_self
    | false =>
      rw [e] at h
      exact List.mem_cons_of_mem _ (q_lk_mem h)
def q_cw (M : q_M) : Cond := match M.2.2.2.2.2.2.2 with | [] => Cond.code M.1 M.2.1 M.2.2.1 M.2.2.2.1 | hh => Cond.codeWith M.1 M.2.1 M.2.2.1 M.2.2.2.1 hh
/-- what the tables say of a method: its word, a plain name, its owner -/
def q_mok (M : q_M) : Prop := lw_tbl[M.2.2.2.2.2.2.1]? = some (q_cw M) ∧ plainName M.1.cls = true ∧ M.1.cls = q_nm M.2.2.2.2.1 ∧ (M.1.cls ≠ "java/lang/invoke/MethodHandle" ∧ M.1.cls ≠ "java/lang/invoke/VarHandle")
theorem q_fl_ok : ∀ o, o < 10 → ∀ x ∈ q_fl o, lw_tbl[x.2.2.2]? = some (.fieldLink (q_nm o) x.1 (q_cnm x.2.1) (q_T x.2.1 x.2.2.1).2.1 (q_T x.2.1 x.2.2.1).2.2.1) ∧ x.2.1 < 9 ∧ x.2.2.1 < q_N x.2.1 ∧ (q_T x.2.1 x.2.2.1).1 = q_cnm x.2.1 := by decide +kernel
def q_calok (o : Nat) (x : Nat × Nat × Nat × q_M × Nat × Nat × Nat × Nat) : Prop :=
  (parseMethodDescriptor x.2.2.2.1.1.desc).map (fun d => d.parameters.length) = some x.2.2.1 ∧ lw_tbl[x.2.2.2.2.1]? = some (.methodLink (q_nm o) x.1 x.2.2.2.1.1) ∧ lw_tbl[x.2.2.2.2.2.2.2]? = some (.initialized x.2.2.2.1.1.cls) ∧
  lw_tbl[x.2.2.2.2.2.1]? = some (bif Nat.beq x.2.1 0 then .static x.2.2.2.1.1 else .instanceMethod x.2.2.2.1.1) ∧ (x.2.1 = 1 → lw_tbl[x.2.2.2.2.2.2.1]? = some (.selects x.2.2.2.1.1.cls x.2.2.2.1.1 x.2.2.2.1.1)) ∧ (x.2.1 = 2 → x.2.2.2.1.1.name = "<init>") ∧ (¬ x.2.1 = 0 → x.2.2.2.1.2.2.2.2.2.2.2 = [])
theorem q_cal_ok_0 : ∀ x ∈ q_cal 0, q_calok 0 x := by unfold q_calok; decide +kernel
theorem q_cal_ok_1 : ∀ x ∈ q_cal 1, q_calok 1 x := by unfold q_calok; decide +kernel
theorem q_cal_ok_2 : ∀ x ∈ q_cal 2, q_calok 2 x := by unfold q_calok; decide +kernel
theorem q_cal_ok_4 : ∀ x ∈ q_cal 4, q_calok 4 x := by unfold q_calok; decide +kernel
theorem q_cal_ok_5 : ∀ x ∈ q_cal 5, q_calok 5 x := by unfold q_calok; decide +kernel
theorem q_cal_ok_6 : ∀ x ∈ q_cal 6, q_calok 6 x := by unfold q_calok; decide +kernel
theorem q_cal_ok_7 : ∀ x ∈ q_cal 7, q_calok 7 x := by unfold q_calok; decide +kernel
theorem q_cal_ok_8 : ∀ x ∈ q_cal 8, q_calok 8 x := by unfold q_calok; decide +kernel
theorem q_cal_ok_9 : ∀ x ∈ q_cal 9, q_calok 9 x := by unfold q_calok; decide +kernel
theorem q_cal_ok_12 : ∀ x ∈ q_cal 12, q_calok 12 x := by unfold q_calok; decide +kernel
theorem q_cal_ok_13 : ∀ x ∈ q_cal 13, q_calok 13 x := by unfold q_calok; decide +kernel
theorem q_cal_ok : ∀ o, ∀ x ∈ q_cal o, q_calok o x := by
  intro o
  match o with
  | 0 => exact q_cal_ok_0
  | 1 => exact q_cal_ok_1
  | 2 => exact q_cal_ok_2
  | 3 => exact fun _ h => absurd h List.not_mem_nil
  | 4 => exact q_cal_ok_4
  | 5 => exact q_cal_ok_5
  | 6 => exact q_cal_ok_6
  | 7 => exact q_cal_ok_7
  | 8 => exact q_cal_ok_8
  | 9 => exact q_cal_ok_9
  | 10 => exact fun _ h => absurd h List.not_mem_nil
  | 11 => exact fun _ h => absurd h List.not_mem_nil
  | 12 => exact q_cal_ok_12
  | 13 => exact q_cal_ok_13
  | _ + 14 => exact fun _ h => absurd h List.not_mem_nil
set_option maxRecDepth 100000 in
theorem q_k_J0_coder_7d493 : q_mok q_m_J0_coder_7d493 := ⟨rfl, by decide +kernel, rfl, by decide +kernel, by decide +kernel⟩
set_option maxRecDepth 100000 in
theorem q_k_J0_isLatin1_aae02 : q_mok q_m_J0_isLatin1_aae02 := ⟨rfl, by decide +kernel, rfl, by decide +kernel, by decide +kernel⟩
set_option maxRecDepth 100000 in
theorem q_k_J1_canEncode_9a6ad : q_mok q_m_J1_canEncode_9a6ad := ⟨rfl, by decide +kernel, rfl, by decide +kernel, by decide +kernel⟩
set_option maxRecDepth 100000 in
theorem q_k_J1_indexOfChar_4cfef : q_mok q_m_J1_indexOfChar_4cfef := ⟨rfl, by decide +kernel, rfl, by decide +kernel, by decide +kernel⟩
set_option maxRecDepth 100000 in
theorem q_k_J3_checkIndex_8e157 : q_mok q_m_J3_checkIndex_8e157 := ⟨rfl, by decide +kernel, rfl, by decide +kernel, by decide +kernel⟩
set_option maxRecDepth 100000 in
theorem q_k_J7_fill_53178 : q_mok q_m_J7_fill_53178 := ⟨rfl, by decide +kernel, rfl, by decide +kernel, by decide +kernel⟩
set_option maxRecDepth 100000 in
theorem q_k_J7_fill_d0a16 : q_mok q_m_J7_fill_d0a16 := ⟨rfl, by decide +kernel, rfl, by decide +kernel, by decide +kernel⟩
set_option maxRecDepth 100000 in
theorem q_k_X0_isBetter : q_mok q_m_X0_isBetter := ⟨rfl, by decide +kernel, rfl, by decide +kernel, by decide +kernel⟩
set_option maxRecDepth 100000 in
theorem q_k_X0_noteRound : q_mok q_m_X0_noteRound := ⟨rfl, by decide +kernel, rfl, by decide +kernel, by decide +kernel⟩
set_option maxRecDepth 100000 in
theorem q_k_X2_canEndRow : q_mok q_m_X2_canEndRow := ⟨rfl, by decide +kernel, rfl, by decide +kernel, by decide +kernel⟩
set_option maxRecDepth 100000 in
theorem q_k_X2_canGrowRow : q_mok q_m_X2_canGrowRow := ⟨rfl, by decide +kernel, rfl, by decide +kernel, by decide +kernel⟩
set_option maxRecDepth 100000 in
theorem q_k_X2_endRow : q_mok q_m_X2_endRow := ⟨rfl, by decide +kernel, rfl, by decide +kernel, by decide +kernel⟩
set_option maxRecDepth 100000 in
theorem q_k_X2_isFull : q_mok q_m_X2_isFull := ⟨rfl, by decide +kernel, rfl, by decide +kernel, by decide +kernel⟩
set_option maxRecDepth 100000 in
theorem q_k_X2_kindOf : q_mok q_m_X2_kindOf := ⟨rfl, by decide +kernel, rfl, by decide +kernel, by decide +kernel⟩
set_option maxRecDepth 100000 in
theorem q_k_X3_begin : q_mok q_m_X3_begin := ⟨rfl, by decide +kernel, rfl, by decide +kernel, by decide +kernel⟩
set_option maxRecDepth 100000 in
theorem q_k_X3_isNextLine : q_mok q_m_X3_isNextLine := ⟨rfl, by decide +kernel, rfl, by decide +kernel, by decide +kernel⟩
set_option maxRecDepth 100000 in
theorem q_k_X3_linesLeft : q_mok q_m_X3_linesLeft := ⟨rfl, by decide +kernel, rfl, by decide +kernel, by decide +kernel⟩
set_option maxRecDepth 100000 in
theorem q_k_X4_canEndAt : q_mok q_m_X4_canEndAt := ⟨rfl, by decide +kernel, rfl, by decide +kernel, by decide +kernel⟩
set_option maxRecDepth 100000 in
theorem q_k_X4_isTaken : q_mok q_m_X4_isTaken := ⟨rfl, by decide +kernel, rfl, by decide +kernel, by decide +kernel⟩
set_option maxRecDepth 100000 in
theorem q_k_X4_stepsOfPath : q_mok q_m_X4_stepsOfPath := ⟨rfl, by decide +kernel, rfl, by decide +kernel, by decide +kernel⟩
set_option maxRecDepth 100000 in
theorem q_k_X4_tracePath : q_mok q_m_X4_tracePath := ⟨rfl, by decide +kernel, rfl, by decide +kernel, by decide +kernel⟩
set_option maxRecDepth 100000 in
theorem q_k_X5_begin : q_mok q_m_X5_begin := ⟨rfl, by decide +kernel, rfl, by decide +kernel, by decide +kernel⟩
set_option maxRecDepth 100000 in
theorem q_k_X5_cellAhead : q_mok q_m_X5_cellAhead := ⟨rfl, by decide +kernel, rfl, by decide +kernel, by decide +kernel⟩
set_option maxRecDepth 100000 in
theorem q_k_X5_follow : q_mok q_m_X5_follow := ⟨rfl, by decide +kernel, rfl, by decide +kernel, by decide +kernel⟩
set_option maxRecDepth 100000 in
theorem q_k_X6_cellCount : q_mok q_m_X6_cellCount := ⟨rfl, by decide +kernel, rfl, by decide +kernel, by decide +kernel⟩
set_option maxRecDepth 100000 in
theorem q_k_X6_columnOf : q_mok q_m_X6_columnOf := ⟨rfl, by decide +kernel, rfl, by decide +kernel, by decide +kernel⟩
set_option maxRecDepth 100000 in
theorem q_k_X6_isOrder : q_mok q_m_X6_isOrder := ⟨rfl, by decide +kernel, rfl, by decide +kernel, by decide +kernel⟩
set_option maxRecDepth 100000 in
theorem q_k_X6_isRobot : q_mok q_m_X6_isRobot := ⟨rfl, by decide +kernel, rfl, by decide +kernel, by decide +kernel⟩
set_option maxRecDepth 100000 in
theorem q_k_X7_faultPosition : q_mok q_m_X7_faultPosition := ⟨rfl, by decide +kernel, rfl, by decide +kernel, by decide +kernel⟩
set_option maxRecDepth 100000 in
theorem q_k_X7_refuse : q_mok q_m_X7_refuse := ⟨rfl, by decide +kernel, rfl, by decide +kernel, by decide +kernel⟩
set_option maxRecDepth 100000 in
theorem q_k_X7_signOf : q_mok q_m_X7_signOf := ⟨rfl, by decide +kernel, rfl, by decide +kernel, by decide +kernel⟩
set_option maxRecDepth 100000 in
theorem q_k_X8_append : q_mok q_m_X8_append := ⟨rfl, by decide +kernel, rfl, by decide +kernel, by decide +kernel⟩
set_option maxRecDepth 100000 in
theorem q_k_X8_at : q_mok q_m_X8_at := ⟨rfl, by decide +kernel, rfl, by decide +kernel, by decide +kernel⟩
set_option maxRecDepth 100000 in
theorem q_k_X8_canEnter : q_mok q_m_X8_canEnter := ⟨rfl, by decide +kernel, rfl, by decide +kernel, by decide +kernel⟩
set_option maxRecDepth 100000 in
theorem q_k_X8_cells : q_mok q_m_X8_cells := ⟨rfl, by decide +kernel, rfl, by decide +kernel, by decide +kernel⟩
set_option maxRecDepth 100000 in
theorem q_k_X8_faultPosition : q_mok q_m_X8_faultPosition := ⟨rfl, by decide +kernel, rfl, by decide +kernel, by decide +kernel⟩
set_option maxRecDepth 100000 in
theorem q_k_X8_in : q_mok q_m_X8_in := ⟨rfl, by decide +kernel, rfl, by decide +kernel, by decide +kernel⟩
set_option maxRecDepth 100000 in
theorem q_k_X8_mostOf : q_mok q_m_X8_mostOf := ⟨rfl, by decide +kernel, rfl, by decide +kernel, by decide +kernel⟩
set_option maxRecDepth 100000 in
theorem q_k_X8_order : q_mok q_m_X8_order := ⟨rfl, by decide +kernel, rfl, by decide +kernel, by decide +kernel⟩
set_option maxRecDepth 100000 in
theorem q_k_X8_reason : q_mok q_m_X8_reason := ⟨rfl, by decide +kernel, rfl, by decide +kernel, by decide +kernel⟩
set_option maxRecDepth 100000 in
theorem q_k_X8_refuse : q_mok q_m_X8_refuse := ⟨rfl, by decide +kernel, rfl, by decide +kernel, by decide +kernel⟩
set_option maxRecDepth 100000 in
theorem q_k_X8_thrown : q_mok q_m_X8_thrown := ⟨rfl, by decide +kernel, rfl, by decide +kernel, by decide +kernel⟩
set_option maxRecDepth 100000 in
theorem q_k_J0_checkIndex_df160 : q_mok q_m_J0_checkIndex_df160 := ⟨rfl, by decide +kernel, rfl, by decide +kernel, by decide +kernel⟩
set_option maxRecDepth 100000 in
theorem q_k_J0_length_8abf5 : q_mok q_m_J0_length_8abf5 := ⟨rfl, by decide +kernel, rfl, by decide +kernel, by decide +kernel⟩
set_option maxRecDepth 100000 in
theorem q_k_J1_indexOf_4cfef : q_mok q_m_J1_indexOf_4cfef := ⟨rfl, by decide +kernel, rfl, by decide +kernel, by decide +kernel⟩
set_option maxRecDepth 100000 in
theorem q_k_X0_init : q_mok q_m_X0_init := ⟨rfl, by decide +kernel, rfl, by decide +kernel, by decide +kernel⟩
set_option maxRecDepth 100000 in
theorem q_k_X2_findFault : q_mok q_m_X2_findFault := ⟨rfl, by decide +kernel, rfl, by decide +kernel, by decide +kernel⟩
set_option maxRecDepth 100000 in
theorem q_k_X2_init : q_mok q_m_X2_init := ⟨rfl, by decide +kernel, rfl, by decide +kernel, by decide +kernel⟩
set_option maxRecDepth 100000 in
theorem q_k_X2_take : q_mok q_m_X2_take := ⟨rfl, by decide +kernel, rfl, by decide +kernel, by decide +kernel⟩
set_option maxRecDepth 100000 in
theorem q_k_X3_copyFrom : q_mok q_m_X3_copyFrom := ⟨rfl, by decide +kernel, rfl, by decide +kernel, by decide +kernel⟩
set_option maxRecDepth 100000 in
theorem q_k_X3_init : q_mok q_m_X3_init := ⟨rfl, by decide +kernel, rfl, by decide +kernel, by decide +kernel⟩
set_option maxRecDepth 100000 in
theorem q_k_X4_changesPlaces : q_mok q_m_X4_changesPlaces := ⟨rfl, by decide +kernel, rfl, by decide +kernel, by decide +kernel⟩
set_option maxRecDepth 100000 in
theorem q_k_X4_horizon : q_mok q_m_X4_horizon := ⟨rfl, by decide +kernel, rfl, by decide +kernel, by decide +kernel⟩
set_option maxRecDepth 100000 in
theorem q_k_X4_init : q_mok q_m_X4_init := ⟨rfl, by decide +kernel, rfl, by decide +kernel, by decide +kernel⟩
set_option maxRecDepth 100000 in
theorem q_k_X5_charge : q_mok q_m_X5_charge := ⟨rfl, by decide +kernel, rfl, by decide +kernel, by decide +kernel⟩
set_option maxRecDepth 100000 in
theorem q_k_X5_copyFrom : q_mok q_m_X5_copyFrom := ⟨rfl, by decide +kernel, rfl, by decide +kernel, by decide +kernel⟩
set_option maxRecDepth 100000 in
theorem q_k_X5_goOn : q_mok q_m_X5_goOn := ⟨rfl, by decide +kernel, rfl, by decide +kernel, by decide +kernel⟩
set_option maxRecDepth 100000 in
theorem q_k_X5_init : q_mok q_m_X5_init := ⟨rfl, by decide +kernel, rfl, by decide +kernel, by decide +kernel⟩
set_option maxRecDepth 100000 in
theorem q_k_X5_isEverIn : q_mok q_m_X5_isEverIn := ⟨rfl, by decide +kernel, rfl, by decide +kernel, by decide +kernel⟩
set_option maxRecDepth 100000 in
theorem q_k_X5_lastCell : q_mok q_m_X5_lastCell := ⟨rfl, by decide +kernel, rfl, by decide +kernel, by decide +kernel⟩
set_option maxRecDepth 100000 in
theorem q_k_X6_batterySum : q_mok q_m_X6_batterySum := ⟨rfl, by decide +kernel, rfl, by decide +kernel, by decide +kernel⟩
set_option maxRecDepth 100000 in
theorem q_k_X6_dropRobot : q_mok q_m_X6_dropRobot := ⟨rfl, by decide +kernel, rfl, by decide +kernel, by decide +kernel⟩
set_option maxRecDepth 100000 in
theorem q_k_X6_freeRobot : q_mok q_m_X6_freeRobot := ⟨rfl, by decide +kernel, rfl, by decide +kernel, by decide +kernel⟩
set_option maxRecDepth 100000 in
theorem q_k_X6_isCell : q_mok q_m_X6_isCell := ⟨rfl, by decide +kernel, rfl, by decide +kernel, by decide +kernel⟩
set_option maxRecDepth 100000 in
theorem q_k_X6_isLoaded : q_mok q_m_X6_isLoaded := ⟨rfl, by decide +kernel, rfl, by decide +kernel, by decide +kernel⟩
set_option maxRecDepth 100000 in
theorem q_k_X6_isRankedBefore : q_mok q_m_X6_isRankedBefore := ⟨rfl, by decide +kernel, rfl, by decide +kernel, by decide +kernel⟩
set_option maxRecDepth 100000 in
theorem q_k_X6_latenessSum : q_mok q_m_X6_latenessSum := ⟨rfl, by decide +kernel, rfl, by decide +kernel, by decide +kernel⟩
set_option maxRecDepth 100000 in
theorem q_k_X6_neighbor : q_mok q_m_X6_neighbor := ⟨rfl, by decide +kernel, rfl, by decide +kernel, by decide +kernel⟩
set_option maxRecDepth 100000 in
theorem q_k_X6_pickedSum : q_mok q_m_X6_pickedSum := ⟨rfl, by decide +kernel, rfl, by decide +kernel, by decide +kernel⟩
set_option maxRecDepth 100000 in
theorem q_k_X6_putOrder : q_mok q_m_X6_putOrder := ⟨rfl, by decide +kernel, rfl, by decide +kernel, by decide +kernel⟩
set_option maxRecDepth 100000 in
theorem q_k_X6_putRobot : q_mok q_m_X6_putRobot := ⟨rfl, by decide +kernel, rfl, by decide +kernel, by decide +kernel⟩
set_option maxRecDepth 100000 in
theorem q_k_X6_rebuild : q_mok q_m_X6_rebuild := ⟨rfl, by decide +kernel, rfl, by decide +kernel, by decide +kernel⟩
set_option maxRecDepth 100000 in
theorem q_k_X6_robotThere : q_mok q_m_X6_robotThere := ⟨rfl, by decide +kernel, rfl, by decide +kernel, by decide +kernel⟩
set_option maxRecDepth 100000 in
theorem q_k_X6_robotWith : q_mok q_m_X6_robotWith := ⟨rfl, by decide +kernel, rfl, by decide +kernel, by decide +kernel⟩
set_option maxRecDepth 100000 in
theorem q_k_X6_stepSum : q_mok q_m_X6_stepSum := ⟨rfl, by decide +kernel, rfl, by decide +kernel, by decide +kernel⟩
set_option maxRecDepth 100000 in
theorem q_k_X7_refusesPass : q_mok q_m_X7_refusesPass := ⟨rfl, by decide +kernel, rfl, by decide +kernel, by decide +kernel⟩
set_option maxRecDepth 100000 in
theorem q_k_X7_refusesRelease : q_mok q_m_X7_refusesRelease := ⟨rfl, by decide +kernel, rfl, by decide +kernel, by decide +kernel⟩
set_option maxRecDepth 100000 in
theorem q_k_X7_refusesSet : q_mok q_m_X7_refusesSet := ⟨rfl, by decide +kernel, rfl, by decide +kernel, by decide +kernel⟩
set_option maxRecDepth 100000 in
theorem q_k_X7_refusesTakeOff : q_mok q_m_X7_refusesTakeOff := ⟨rfl, by decide +kernel, rfl, by decide +kernel, by decide +kernel⟩
set_option maxRecDepth 100000 in
theorem q_k_X8_beside : q_mok q_m_X8_beside := ⟨rfl, by decide +kernel, rfl, by decide +kernel, by decide +kernel⟩
set_option maxRecDepth 100000 in
theorem q_k_X8_change : q_mok q_m_X8_change := ⟨rfl, by decide +kernel, rfl, by decide +kernel, by decide +kernel⟩
set_option maxRecDepth 100000 in
theorem q_k_X8_closedCells : q_mok q_m_X8_closedCells := ⟨rfl, by decide +kernel, rfl, by decide +kernel, by decide +kernel⟩
set_option maxRecDepth 100000 in
theorem q_k_X8_get : q_mok q_m_X8_get := ⟨rfl, by decide +kernel, rfl, by decide +kernel, by decide +kernel⟩
set_option maxRecDepth 100000 in
theorem q_k_X8_init : q_mok q_m_X8_init := ⟨rfl, by decide +kernel, rfl, by decide +kernel, by decide +kernel⟩
set_option maxRecDepth 100000 in
theorem q_k_X8_isCell : q_mok q_m_X8_isCell := ⟨rfl, by decide +kernel, rfl, by decide +kernel, by decide +kernel⟩
set_option maxRecDepth 100000 in
theorem q_k_X8_isOrder : q_mok q_m_X8_isOrder := ⟨rfl, by decide +kernel, rfl, by decide +kernel, by decide +kernel⟩
set_option maxRecDepth 100000 in
theorem q_k_X8_isRobot : q_mok q_m_X8_isRobot := ⟨rfl, by decide +kernel, rfl, by decide +kernel, by decide +kernel⟩
set_option maxRecDepth 100000 in
theorem q_k_X8_of : q_mok q_m_X8_of := ⟨rfl, by decide +kernel, rfl, by decide +kernel, by decide +kernel⟩
set_option maxRecDepth 100000 in
theorem q_k_X8_restore : q_mok q_m_X8_restore := ⟨rfl, by decide +kernel, rfl, by decide +kernel, by decide +kernel⟩
set_option maxRecDepth 100000 in
theorem q_k_X8_save : q_mok q_m_X8_save := ⟨rfl, by decide +kernel, rfl, by decide +kernel, by decide +kernel⟩
set_option maxRecDepth 100000 in
theorem q_k_X8_undo : q_mok q_m_X8_undo := ⟨rfl, by decide +kernel, rfl, by decide +kernel, by decide +kernel⟩
set_option maxRecDepth 100000 in
theorem q_k_J0_indexOf_7cf53 : q_mok q_m_J0_indexOf_7cf53 := ⟨rfl, by decide +kernel, rfl, by decide +kernel, by decide +kernel⟩
set_option maxRecDepth 100000 in
theorem q_k_J1_charAt_3b067 : q_mok q_m_J1_charAt_3b067 := ⟨rfl, by decide +kernel, rfl, by decide +kernel, by decide +kernel⟩
set_option maxRecDepth 100000 in
theorem q_k_X0_stepsTo : q_mok q_m_X0_stepsTo := ⟨rfl, by decide +kernel, rfl, by decide +kernel, by decide +kernel⟩
set_option maxRecDepth 100000 in
theorem q_k_X5_lastTickIn : q_mok q_m_X5_lastTickIn := ⟨rfl, by decide +kernel, rfl, by decide +kernel, by decide +kernel⟩
set_option maxRecDepth 100000 in
theorem q_k_X6_canEnter : q_mok q_m_X6_canEnter := ⟨rfl, by decide +kernel, rfl, by decide +kernel, by decide +kernel⟩
set_option maxRecDepth 100000 in
theorem q_k_X6_closedCount : q_mok q_m_X6_closedCount := ⟨rfl, by decide +kernel, rfl, by decide +kernel, by decide +kernel⟩
set_option maxRecDepth 100000 in
theorem q_k_X6_copyFrom : q_mok q_m_X6_copyFrom := ⟨rfl, by decide +kernel, rfl, by decide +kernel, by decide +kernel⟩
set_option maxRecDepth 100000 in
theorem q_k_X6_endPlan : q_mok q_m_X6_endPlan := ⟨rfl, by decide +kernel, rfl, by decide +kernel, by decide +kernel⟩
set_option maxRecDepth 100000 in
theorem q_k_X6_init : q_mok q_m_X6_init := ⟨rfl, by decide +kernel, rfl, by decide +kernel, by decide +kernel⟩
set_option maxRecDepth 100000 in
theorem q_k_X6_isCellOrNone : q_mok q_m_X6_isCellOrNone := ⟨rfl, by decide +kernel, rfl, by decide +kernel, by decide +kernel⟩
set_option maxRecDepth 100000 in
theorem q_k_X6_loadedCount : q_mok q_m_X6_loadedCount := ⟨rfl, by decide +kernel, rfl, by decide +kernel, by decide +kernel⟩
set_option maxRecDepth 100000 in
theorem q_k_X6_lowestRobotEverIn : q_mok q_m_X6_lowestRobotEverIn := ⟨rfl, by decide +kernel, rfl, by decide +kernel, by decide +kernel⟩
set_option maxRecDepth 100000 in
theorem q_k_X6_stateOf : q_mok q_m_X6_stateOf := ⟨rfl, by decide +kernel, rfl, by decide +kernel, by decide +kernel⟩
set_option maxRecDepth 100000 in
theorem q_k_X6_stepCost : q_mok q_m_X6_stepCost := ⟨rfl, by decide +kernel, rfl, by decide +kernel, by decide +kernel⟩
set_option maxRecDepth 100000 in
theorem q_k_X7_refusesLine : q_mok q_m_X7_refusesLine := ⟨rfl, by decide +kernel, rfl, by decide +kernel, by decide +kernel⟩
set_option maxRecDepth 100000 in
theorem q_k_X7_refusesOpen : q_mok q_m_X7_refusesOpen := ⟨rfl, by decide +kernel, rfl, by decide +kernel, by decide +kernel⟩
set_option maxRecDepth 100000 in
theorem q_k_X8_cellOf : q_mok q_m_X8_cellOf := ⟨rfl, by decide +kernel, rfl, by decide +kernel, by decide +kernel⟩
set_option maxRecDepth 100000 in
theorem q_k_X8_distanceAgain : q_mok q_m_X8_distanceAgain := ⟨rfl, by decide +kernel, rfl, by decide +kernel, by decide +kernel⟩
set_option maxRecDepth 100000 in
theorem q_k_X8_ends : q_mok q_m_X8_ends := ⟨rfl, by decide +kernel, rfl, by decide +kernel, by decide +kernel⟩
set_option maxRecDepth 100000 in
theorem q_k_X8_findFar : q_mok q_m_X8_findFar := ⟨rfl, by decide +kernel, rfl, by decide +kernel, by decide +kernel⟩
set_option maxRecDepth 100000 in
theorem q_k_X8_isAhead : q_mok q_m_X8_isAhead := ⟨rfl, by decide +kernel, rfl, by decide +kernel, by decide +kernel⟩
set_option maxRecDepth 100000 in
theorem q_k_X8_isLoaded : q_mok q_m_X8_isLoaded := ⟨rfl, by decide +kernel, rfl, by decide +kernel, by decide +kernel⟩
set_option maxRecDepth 100000 in
theorem q_k_X8_line : q_mok q_m_X8_line := ⟨rfl, by decide +kernel, rfl, by decide +kernel, by decide +kernel⟩
set_option maxRecDepth 100000 in
theorem q_k_X8_open : q_mok q_m_X8_open := ⟨rfl, by decide +kernel, rfl, by decide +kernel, by decide +kernel⟩
set_option maxRecDepth 100000 in
theorem q_k_X8_order_ : q_mok q_m_X8_order_ := ⟨rfl, by decide +kernel, rfl, by decide +kernel, by decide +kernel⟩
set_option maxRecDepth 100000 in
theorem q_k_X8_overRobots : q_mok q_m_X8_overRobots := ⟨rfl, by decide +kernel, rfl, by decide +kernel, by decide +kernel⟩
set_option maxRecDepth 100000 in
theorem q_k_X8_release : q_mok q_m_X8_release := ⟨rfl, by decide +kernel, rfl, by decide +kernel, by decide +kernel⟩
set_option maxRecDepth 100000 in
theorem q_k_X8_set : q_mok q_m_X8_set := ⟨rfl, by decide +kernel, rfl, by decide +kernel, by decide +kernel⟩
set_option maxRecDepth 100000 in
theorem q_k_X8_stateOf : q_mok q_m_X8_stateOf := ⟨rfl, by decide +kernel, rfl, by decide +kernel, by decide +kernel⟩
set_option maxRecDepth 100000 in
theorem q_k_X8_takeOff : q_mok q_m_X8_takeOff := ⟨rfl, by decide +kernel, rfl, by decide +kernel, by decide +kernel⟩
set_option maxRecDepth 100000 in
theorem q_k_J0_charAt_5068e : q_mok q_m_J0_charAt_5068e := ⟨rfl, by decide +kernel, rfl, by decide +kernel, by decide +kernel⟩
set_option maxRecDepth 100000 in
theorem q_k_J0_indexOf_0f7a4 : q_mok q_m_J0_indexOf_0f7a4 := ⟨rfl, by decide +kernel, rfl, by decide +kernel, by decide +kernel⟩
set_option maxRecDepth 100000 in
theorem q_k_X0_measureFrom : q_mok q_m_X0_measureFrom := ⟨rfl, by decide +kernel, rfl, by decide +kernel, by decide +kernel⟩
set_option maxRecDepth 100000 in
theorem q_k_X0_nearOfNeighbors : q_mok q_m_X0_nearOfNeighbors := ⟨rfl, by decide +kernel, rfl, by decide +kernel, by decide +kernel⟩
set_option maxRecDepth 100000 in
theorem q_k_X0_openCells : q_mok q_m_X0_openCells := ⟨rfl, by decide +kernel, rfl, by decide +kernel, by decide +kernel⟩
set_option maxRecDepth 100000 in
theorem q_k_X1_giveBack : q_mok q_m_X1_giveBack := ⟨rfl, by decide +kernel, rfl, by decide +kernel, by decide +kernel⟩
set_option maxRecDepth 100000 in
theorem q_k_X1_init : q_mok q_m_X1_init := ⟨rfl, by decide +kernel, rfl, by decide +kernel, by decide +kernel⟩
set_option maxRecDepth 100000 in
theorem q_k_X1_keep : q_mok q_m_X1_keep := ⟨rfl, by decide +kernel, rfl, by decide +kernel, by decide +kernel⟩
set_option maxRecDepth 100000 in
theorem q_k_X4_canStep : q_mok q_m_X4_canStep := ⟨rfl, by decide +kernel, rfl, by decide +kernel, by decide +kernel⟩
set_option maxRecDepth 100000 in
theorem q_k_X4_noteOther : q_mok q_m_X4_noteOther := ⟨rfl, by decide +kernel, rfl, by decide +kernel, by decide +kernel⟩
set_option maxRecDepth 100000 in
theorem q_k_X6_enteredNeighbors : q_mok q_m_X6_enteredNeighbors := ⟨rfl, by decide +kernel, rfl, by decide +kernel, by decide +kernel⟩
set_option maxRecDepth 100000 in
theorem q_k_X6_ordersIn : q_mok q_m_X6_ordersIn := ⟨rfl, by decide +kernel, rfl, by decide +kernel, by decide +kernel⟩
set_option maxRecDepth 100000 in
theorem q_k_X6_tick : q_mok q_m_X6_tick := ⟨rfl, by decide +kernel, rfl, by decide +kernel, by decide +kernel⟩
set_option maxRecDepth 100000 in
theorem q_k_X6_waitingBefore : q_mok q_m_X6_waitingBefore := ⟨rfl, by decide +kernel, rfl, by decide +kernel, by decide +kernel⟩
set_option maxRecDepth 100000 in
theorem q_k_X7_refusesAssign : q_mok q_m_X7_refusesAssign := ⟨rfl, by decide +kernel, rfl, by decide +kernel, by decide +kernel⟩
set_option maxRecDepth 100000 in
theorem q_k_X7_refusesFound : q_mok q_m_X7_refusesFound := ⟨rfl, by decide +kernel, rfl, by decide +kernel, by decide +kernel⟩
set_option maxRecDepth 100000 in
theorem q_k_X7_refusesGoal : q_mok q_m_X7_refusesGoal := ⟨rfl, by decide +kernel, rfl, by decide +kernel, by decide +kernel⟩
set_option maxRecDepth 100000 in
theorem q_k_X7_refusesOrder : q_mok q_m_X7_refusesOrder := ⟨rfl, by decide +kernel, rfl, by decide +kernel, by decide +kernel⟩
set_option maxRecDepth 100000 in
theorem q_k_X7_refusesRobotsCell : q_mok q_m_X7_refusesRobotsCell := ⟨rfl, by decide +kernel, rfl, by decide +kernel, by decide +kernel⟩
set_option maxRecDepth 100000 in
theorem q_k_X7_save : q_mok q_m_X7_save := ⟨rfl, by decide +kernel, rfl, by decide +kernel, by decide +kernel⟩
set_option maxRecDepth 100000 in
theorem q_k_X8_assign : q_mok q_m_X8_assign := ⟨rfl, by decide +kernel, rfl, by decide +kernel, by decide +kernel⟩
set_option maxRecDepth 100000 in
theorem q_k_X8_farOf : q_mok q_m_X8_farOf := ⟨rfl, by decide +kernel, rfl, by decide +kernel, by decide +kernel⟩
set_option maxRecDepth 100000 in
theorem q_k_X8_farthest : q_mok q_m_X8_farthest := ⟨rfl, by decide +kernel, rfl, by decide +kernel, by decide +kernel⟩
set_option maxRecDepth 100000 in
theorem q_k_X8_lateness : q_mok q_m_X8_lateness := ⟨rfl, by decide +kernel, rfl, by decide +kernel, by decide +kernel⟩
set_option maxRecDepth 100000 in
theorem q_k_X8_loaded : q_mok q_m_X8_loaded := ⟨rfl, by decide +kernel, rfl, by decide +kernel, by decide +kernel⟩
set_option maxRecDepth 100000 in
theorem q_k_X8_mayGo : q_mok q_m_X8_mayGo := ⟨rfl, by decide +kernel, rfl, by decide +kernel, by decide +kernel⟩
set_option maxRecDepth 100000 in
theorem q_k_X8_orderOf : q_mok q_m_X8_orderOf := ⟨rfl, by decide +kernel, rfl, by decide +kernel, by decide +kernel⟩
set_option maxRecDepth 100000 in
theorem q_k_X8_overOrders : q_mok q_m_X8_overOrders := ⟨rfl, by decide +kernel, rfl, by decide +kernel, by decide +kernel⟩
set_option maxRecDepth 100000 in
theorem q_k_X8_planned : q_mok q_m_X8_planned := ⟨rfl, by decide +kernel, rfl, by decide +kernel, by decide +kernel⟩
set_option maxRecDepth 100000 in
theorem q_k_X8_reach : q_mok q_m_X8_reach := ⟨rfl, by decide +kernel, rfl, by decide +kernel, by decide +kernel⟩
set_option maxRecDepth 100000 in
theorem q_k_X8_robotIn : q_mok q_m_X8_robotIn := ⟨rfl, by decide +kernel, rfl, by decide +kernel, by decide +kernel⟩
set_option maxRecDepth 100000 in
theorem q_k_X8_robotOf : q_mok q_m_X8_robotOf := ⟨rfl, by decide +kernel, rfl, by decide +kernel, by decide +kernel⟩
set_option maxRecDepth 100000 in
theorem q_k_X8_tick : q_mok q_m_X8_tick := ⟨rfl, by decide +kernel, rfl, by decide +kernel, by decide +kernel⟩
set_option maxRecDepth 100000 in
theorem q_k_X8_waiting : q_mok q_m_X8_waiting := ⟨rfl, by decide +kernel, rfl, by decide +kernel, by decide +kernel⟩
set_option maxRecDepth 100000 in
theorem q_k_X8_willBe : q_mok q_m_X8_willBe := ⟨rfl, by decide +kernel, rfl, by decide +kernel, by decide +kernel⟩
set_option maxRecDepth 100000 in
theorem q_k_X0_between : q_mok q_m_X0_between := ⟨rfl, by decide +kernel, rfl, by decide +kernel, by decide +kernel⟩
set_option maxRecDepth 100000 in
theorem q_k_X0_countFrom : q_mok q_m_X0_countFrom := ⟨rfl, by decide +kernel, rfl, by decide +kernel, by decide +kernel⟩
set_option maxRecDepth 100000 in
theorem q_k_X0_farthestFrom : q_mok q_m_X0_farthestFrom := ⟨rfl, by decide +kernel, rfl, by decide +kernel, by decide +kernel⟩
set_option maxRecDepth 100000 in
theorem q_k_X0_fillTable : q_mok q_m_X0_fillTable := ⟨rfl, by decide +kernel, rfl, by decide +kernel, by decide +kernel⟩
set_option maxRecDepth 100000 in
theorem q_k_X0_toNearestStation : q_mok q_m_X0_toNearestStation := ⟨rfl, by decide +kernel, rfl, by decide +kernel, by decide +kernel⟩
set_option maxRecDepth 100000 in
theorem q_k_X4_canComeTo : q_mok q_m_X4_canComeTo := ⟨rfl, by decide +kernel, rfl, by decide +kernel, by decide +kernel⟩
set_option maxRecDepth 100000 in
theorem q_k_X4_prepare : q_mok q_m_X4_prepare := ⟨rfl, by decide +kernel, rfl, by decide +kernel, by decide +kernel⟩
set_option maxRecDepth 100000 in
theorem q_k_X6_waitingOrder : q_mok q_m_X6_waitingOrder := ⟨rfl, by decide +kernel, rfl, by decide +kernel, by decide +kernel⟩
set_option maxRecDepth 100000 in
theorem q_k_X7_init : q_mok q_m_X7_init := ⟨rfl, by decide +kernel, rfl, by decide +kernel, by decide +kernel⟩
set_option maxRecDepth 100000 in
theorem q_k_X7_refusesAdd : q_mok q_m_X7_refusesAdd := ⟨rfl, by decide +kernel, rfl, by decide +kernel, by decide +kernel⟩
set_option maxRecDepth 100000 in
theorem q_k_X7_refusesCancel : q_mok q_m_X7_refusesCancel := ⟨rfl, by decide +kernel, rfl, by decide +kernel, by decide +kernel⟩
set_option maxRecDepth 100000 in
theorem q_k_X7_refusesClose : q_mok q_m_X7_refusesClose := ⟨rfl, by decide +kernel, rfl, by decide +kernel, by decide +kernel⟩
set_option maxRecDepth 100000 in
theorem q_k_X8_account : q_mok q_m_X8_account := ⟨rfl, by decide +kernel, rfl, by decide +kernel, by decide +kernel⟩
set_option maxRecDepth 100000 in
theorem q_k_X8_add : q_mok q_m_X8_add := ⟨rfl, by decide +kernel, rfl, by decide +kernel, by decide +kernel⟩
set_option maxRecDepth 100000 in
theorem q_k_X8_canEnd : q_mok q_m_X8_canEnd := ⟨rfl, by decide +kernel, rfl, by decide +kernel, by decide +kernel⟩
set_option maxRecDepth 100000 in
theorem q_k_X8_cancel : q_mok q_m_X8_cancel := ⟨rfl, by decide +kernel, rfl, by decide +kernel, by decide +kernel⟩
set_option maxRecDepth 100000 in
theorem q_k_X8_cell : q_mok q_m_X8_cell := ⟨rfl, by decide +kernel, rfl, by decide +kernel, by decide +kernel⟩
set_option maxRecDepth 100000 in
theorem q_k_X8_close : q_mok q_m_X8_close := ⟨rfl, by decide +kernel, rfl, by decide +kernel, by decide +kernel⟩
set_option maxRecDepth 100000 in
theorem q_k_X8_distance : q_mok q_m_X8_distance := ⟨rfl, by decide +kernel, rfl, by decide +kernel, by decide +kernel⟩
set_option maxRecDepth 100000 in
theorem q_k_X8_findComing : q_mok q_m_X8_findComing := ⟨rfl, by decide +kernel, rfl, by decide +kernel, by decide +kernel⟩
set_option maxRecDepth 100000 in
theorem q_k_X8_findGoing : q_mok q_m_X8_findGoing := ⟨rfl, by decide +kernel, rfl, by decide +kernel, by decide +kernel⟩
set_option maxRecDepth 100000 in
theorem q_k_X8_letter : q_mok q_m_X8_letter := ⟨rfl, by decide +kernel, rfl, by decide +kernel, by decide +kernel⟩
set_option maxRecDepth 100000 in
theorem q_k_X8_pass : q_mok q_m_X8_pass := ⟨rfl, by decide +kernel, rfl, by decide +kernel, by decide +kernel⟩
set_option maxRecDepth 100000 in
theorem q_k_X8_reserved : q_mok q_m_X8_reserved := ⟨rfl, by decide +kernel, rfl, by decide +kernel, by decide +kernel⟩
set_option maxRecDepth 100000 in
theorem q_k_X8_suited : q_mok q_m_X8_suited := ⟨rfl, by decide +kernel, rfl, by decide +kernel, by decide +kernel⟩
set_option maxRecDepth 100000 in
theorem q_k_X8_tour : q_mok q_m_X8_tour := ⟨rfl, by decide +kernel, rfl, by decide +kernel, by decide +kernel⟩
set_option maxRecDepth 100000 in
theorem q_k_X8_wrongPlace : q_mok q_m_X8_wrongPlace := ⟨rfl, by decide +kernel, rfl, by decide +kernel, by decide +kernel⟩
set_option maxRecDepth 100000 in
theorem q_k_X0_bestRobotFor : q_mok q_m_X0_bestRobotFor := ⟨rfl, by decide +kernel, rfl, by decide +kernel, by decide +kernel⟩
set_option maxRecDepth 100000 in
theorem q_k_X0_renewTable : q_mok q_m_X0_renewTable := ⟨rfl, by decide +kernel, rfl, by decide +kernel, by decide +kernel⟩
set_option maxRecDepth 100000 in
theorem q_k_X0_through : q_mok q_m_X0_through := ⟨rfl, by decide +kernel, rfl, by decide +kernel, by decide +kernel⟩
set_option maxRecDepth 100000 in
theorem q_k_X4_cellsAfter : q_mok q_m_X4_cellsAfter := ⟨rfl, by decide +kernel, rfl, by decide +kernel, by decide +kernel⟩
set_option maxRecDepth 100000 in
theorem q_k_X4_findFirst : q_mok q_m_X4_findFirst := ⟨rfl, by decide +kernel, rfl, by decide +kernel, by decide +kernel⟩
set_option maxRecDepth 100000 in
theorem q_k_X8_fewest : q_mok q_m_X8_fewest := ⟨rfl, by decide +kernel, rfl, by decide +kernel, by decide +kernel⟩
set_option maxRecDepth 100000 in
theorem q_k_X8_findPath : q_mok q_m_X8_findPath := ⟨rfl, by decide +kernel, rfl, by decide +kernel, by decide +kernel⟩
set_option maxRecDepth 100000 in
theorem q_k_X8_layout : q_mok q_m_X8_layout := ⟨rfl, by decide +kernel, rfl, by decide +kernel, by decide +kernel⟩
set_option maxRecDepth 100000 in
theorem q_k_X0_betweenByTable : q_mok q_m_X0_betweenByTable := ⟨rfl, by decide +kernel, rfl, by decide +kernel, by decide +kernel⟩
set_option maxRecDepth 100000 in
theorem q_k_X4_findTickByTick : q_mok q_m_X4_findTickByTick := ⟨rfl, by decide +kernel, rfl, by decide +kernel, by decide +kernel⟩
set_option maxRecDepth 100000 in
theorem q_k_X8_arrival : q_mok q_m_X8_arrival := ⟨rfl, by decide +kernel, rfl, by decide +kernel, by decide +kernel⟩
set_option maxRecDepth 100000 in
theorem q_k_X8_plan : q_mok q_m_X8_plan := ⟨rfl, by decide +kernel, rfl, by decide +kernel, by decide +kernel⟩
set_option maxRecDepth 100000 in
theorem q_k_X7_account : q_mok q_m_X7_account := ⟨rfl, by decide +kernel, rfl, by decide +kernel, by decide +kernel⟩
set_option maxRecDepth 100000 in
theorem q_k_X7_add : q_mok q_m_X7_add := ⟨rfl, by decide +kernel, rfl, by decide +kernel, by decide +kernel⟩
set_option maxRecDepth 100000 in
theorem q_k_X7_append : q_mok q_m_X7_append := ⟨rfl, by decide +kernel, rfl, by decide +kernel, by decide +kernel⟩
set_option maxRecDepth 100000 in
theorem q_k_X7_arrival : q_mok q_m_X7_arrival := ⟨rfl, by decide +kernel, rfl, by decide +kernel, by decide +kernel⟩
set_option maxRecDepth 100000 in
theorem q_k_X7_arrivalAgain : q_mok q_m_X7_arrivalAgain := ⟨rfl, by decide +kernel, rfl, by decide +kernel, by decide +kernel⟩
set_option maxRecDepth 100000 in
theorem q_k_X7_assign : q_mok q_m_X7_assign := ⟨rfl, by decide +kernel, rfl, by decide +kernel, by decide +kernel⟩
set_option maxRecDepth 100000 in
theorem q_k_X7_cancel : q_mok q_m_X7_cancel := ⟨rfl, by decide +kernel, rfl, by decide +kernel, by decide +kernel⟩
set_option maxRecDepth 100000 in
theorem q_k_X7_cell : q_mok q_m_X7_cell := ⟨rfl, by decide +kernel, rfl, by decide +kernel, by decide +kernel⟩
set_option maxRecDepth 100000 in
theorem q_k_X7_close : q_mok q_m_X7_close := ⟨rfl, by decide +kernel, rfl, by decide +kernel, by decide +kernel⟩
set_option maxRecDepth 100000 in
theorem q_k_X7_distance : q_mok q_m_X7_distance := ⟨rfl, by decide +kernel, rfl, by decide +kernel, by decide +kernel⟩
set_option maxRecDepth 100000 in
theorem q_k_X7_distanceAgain : q_mok q_m_X7_distanceAgain := ⟨rfl, by decide +kernel, rfl, by decide +kernel, by decide +kernel⟩
set_option maxRecDepth 100000 in
theorem q_k_X7_farthest : q_mok q_m_X7_farthest := ⟨rfl, by decide +kernel, rfl, by decide +kernel, by decide +kernel⟩
set_option maxRecDepth 100000 in
theorem q_k_X7_lateness : q_mok q_m_X7_lateness := ⟨rfl, by decide +kernel, rfl, by decide +kernel, by decide +kernel⟩
set_option maxRecDepth 100000 in
theorem q_k_X7_layout : q_mok q_m_X7_layout := ⟨rfl, by decide +kernel, rfl, by decide +kernel, by decide +kernel⟩
set_option maxRecDepth 100000 in
theorem q_k_X7_letter : q_mok q_m_X7_letter := ⟨rfl, by decide +kernel, rfl, by decide +kernel, by decide +kernel⟩
set_option maxRecDepth 100000 in
theorem q_k_X7_line : q_mok q_m_X7_line := ⟨rfl, by decide +kernel, rfl, by decide +kernel, by decide +kernel⟩
set_option maxRecDepth 100000 in
theorem q_k_X7_loaded : q_mok q_m_X7_loaded := ⟨rfl, by decide +kernel, rfl, by decide +kernel, by decide +kernel⟩
set_option maxRecDepth 100000 in
theorem q_k_X7_open : q_mok q_m_X7_open := ⟨rfl, by decide +kernel, rfl, by decide +kernel, by decide +kernel⟩
set_option maxRecDepth 100000 in
theorem q_k_X7_order : q_mok q_m_X7_order := ⟨rfl, by decide +kernel, rfl, by decide +kernel, by decide +kernel⟩
set_option maxRecDepth 100000 in
theorem q_k_X7_orderOf : q_mok q_m_X7_orderOf := ⟨rfl, by decide +kernel, rfl, by decide +kernel, by decide +kernel⟩
set_option maxRecDepth 100000 in
theorem q_k_X7_pass : q_mok q_m_X7_pass := ⟨rfl, by decide +kernel, rfl, by decide +kernel, by decide +kernel⟩
set_option maxRecDepth 100000 in
theorem q_k_X7_plan : q_mok q_m_X7_plan := ⟨rfl, by decide +kernel, rfl, by decide +kernel, by decide +kernel⟩
set_option maxRecDepth 100000 in
theorem q_k_X7_planned : q_mok q_m_X7_planned := ⟨rfl, by decide +kernel, rfl, by decide +kernel, by decide +kernel⟩
set_option maxRecDepth 100000 in
theorem q_k_X7_reach : q_mok q_m_X7_reach := ⟨rfl, by decide +kernel, rfl, by decide +kernel, by decide +kernel⟩
set_option maxRecDepth 100000 in
theorem q_k_X7_reason : q_mok q_m_X7_reason := ⟨rfl, by decide +kernel, rfl, by decide +kernel, by decide +kernel⟩
set_option maxRecDepth 100000 in
theorem q_k_X7_release : q_mok q_m_X7_release := ⟨rfl, by decide +kernel, rfl, by decide +kernel, by decide +kernel⟩
set_option maxRecDepth 100000 in
theorem q_k_X7_reserved : q_mok q_m_X7_reserved := ⟨rfl, by decide +kernel, rfl, by decide +kernel, by decide +kernel⟩
set_option maxRecDepth 100000 in
theorem q_k_X7_restore : q_mok q_m_X7_restore := ⟨rfl, by decide +kernel, rfl, by decide +kernel, by decide +kernel⟩
set_option maxRecDepth 100000 in
theorem q_k_X7_robotOf : q_mok q_m_X7_robotOf := ⟨rfl, by decide +kernel, rfl, by decide +kernel, by decide +kernel⟩
set_option maxRecDepth 100000 in
theorem q_k_X7_set : q_mok q_m_X7_set := ⟨rfl, by decide +kernel, rfl, by decide +kernel, by decide +kernel⟩
set_option maxRecDepth 100000 in
theorem q_k_X7_suited : q_mok q_m_X7_suited := ⟨rfl, by decide +kernel, rfl, by decide +kernel, by decide +kernel⟩
set_option maxRecDepth 100000 in
theorem q_k_X7_takeOff : q_mok q_m_X7_takeOff := ⟨rfl, by decide +kernel, rfl, by decide +kernel, by decide +kernel⟩
set_option maxRecDepth 100000 in
theorem q_k_X7_tour : q_mok q_m_X7_tour := ⟨rfl, by decide +kernel, rfl, by decide +kernel, by decide +kernel⟩
set_option maxRecDepth 100000 in
theorem q_k_X7_undo : q_mok q_m_X7_undo := ⟨rfl, by decide +kernel, rfl, by decide +kernel, by decide +kernel⟩
set_option maxRecDepth 100000 in
theorem q_k_X7_waiting : q_mok q_m_X7_waiting := ⟨rfl, by decide +kernel, rfl, by decide +kernel, by decide +kernel⟩
set_option maxRecDepth 100000 in
theorem q_k_X8_arrivalAgain : q_mok q_m_X8_arrivalAgain := ⟨rfl, by decide +kernel, rfl, by decide +kernel, by decide +kernel⟩
set_option maxRecDepth 100000 in
theorem q_k_L_account : q_mok q_m_L_account := ⟨rfl, by decide +kernel, rfl, by decide +kernel, by decide +kernel⟩
set_option maxRecDepth 100000 in
theorem q_k_L_add : q_mok q_m_L_add := ⟨rfl, by decide +kernel, rfl, by decide +kernel, by decide +kernel⟩
set_option maxRecDepth 100000 in
theorem q_k_L_append : q_mok q_m_L_append := ⟨rfl, by decide +kernel, rfl, by decide +kernel, by decide +kernel⟩
set_option maxRecDepth 100000 in
theorem q_k_L_arrival : q_mok q_m_L_arrival := ⟨rfl, by decide +kernel, rfl, by decide +kernel, by decide +kernel⟩
set_option maxRecDepth 100000 in
theorem q_k_L_arrivalAgain : q_mok q_m_L_arrivalAgain := ⟨rfl, by decide +kernel, rfl, by decide +kernel, by decide +kernel⟩
set_option maxRecDepth 100000 in
theorem q_k_L_assign : q_mok q_m_L_assign := ⟨rfl, by decide +kernel, rfl, by decide +kernel, by decide +kernel⟩
set_option maxRecDepth 100000 in
theorem q_k_L_cancel : q_mok q_m_L_cancel := ⟨rfl, by decide +kernel, rfl, by decide +kernel, by decide +kernel⟩
set_option maxRecDepth 100000 in
theorem q_k_L_cell : q_mok q_m_L_cell := ⟨rfl, by decide +kernel, rfl, by decide +kernel, by decide +kernel⟩
set_option maxRecDepth 100000 in
theorem q_k_L_close : q_mok q_m_L_close := ⟨rfl, by decide +kernel, rfl, by decide +kernel, by decide +kernel⟩
set_option maxRecDepth 100000 in
theorem q_k_L_distance : q_mok q_m_L_distance := ⟨rfl, by decide +kernel, rfl, by decide +kernel, by decide +kernel⟩
set_option maxRecDepth 100000 in
theorem q_k_L_distanceAgain : q_mok q_m_L_distanceAgain := ⟨rfl, by decide +kernel, rfl, by decide +kernel, by decide +kernel⟩
set_option maxRecDepth 100000 in
theorem q_k_L_farthest : q_mok q_m_L_farthest := ⟨rfl, by decide +kernel, rfl, by decide +kernel, by decide +kernel⟩
set_option maxRecDepth 100000 in
theorem q_k_L_lateness : q_mok q_m_L_lateness := ⟨rfl, by decide +kernel, rfl, by decide +kernel, by decide +kernel⟩
set_option maxRecDepth 100000 in
theorem q_k_L_layout : q_mok q_m_L_layout := ⟨rfl, by decide +kernel, rfl, by decide +kernel, by decide +kernel⟩
set_option maxRecDepth 100000 in
theorem q_k_L_letter : q_mok q_m_L_letter := ⟨rfl, by decide +kernel, rfl, by decide +kernel, by decide +kernel⟩
set_option maxRecDepth 100000 in
theorem q_k_L_line : q_mok q_m_L_line := ⟨rfl, by decide +kernel, rfl, by decide +kernel, by decide +kernel⟩
set_option maxRecDepth 100000 in
theorem q_k_L_loaded : q_mok q_m_L_loaded := ⟨rfl, by decide +kernel, rfl, by decide +kernel, by decide +kernel⟩
set_option maxRecDepth 100000 in
theorem q_k_L_open : q_mok q_m_L_open := ⟨rfl, by decide +kernel, rfl, by decide +kernel, by decide +kernel⟩
set_option maxRecDepth 100000 in
theorem q_k_L_order : q_mok q_m_L_order := ⟨rfl, by decide +kernel, rfl, by decide +kernel, by decide +kernel⟩
set_option maxRecDepth 100000 in
theorem q_k_L_orderOf : q_mok q_m_L_orderOf := ⟨rfl, by decide +kernel, rfl, by decide +kernel, by decide +kernel⟩
set_option maxRecDepth 100000 in
theorem q_k_L_pass : q_mok q_m_L_pass := ⟨rfl, by decide +kernel, rfl, by decide +kernel, by decide +kernel⟩
set_option maxRecDepth 100000 in
theorem q_k_L_plan : q_mok q_m_L_plan := ⟨rfl, by decide +kernel, rfl, by decide +kernel, by decide +kernel⟩
set_option maxRecDepth 100000 in
theorem q_k_L_planned : q_mok q_m_L_planned := ⟨rfl, by decide +kernel, rfl, by decide +kernel, by decide +kernel⟩
set_option maxRecDepth 100000 in
theorem q_k_L_reach : q_mok q_m_L_reach := ⟨rfl, by decide +kernel, rfl, by decide +kernel, by decide +kernel⟩
set_option maxRecDepth 100000 in
theorem q_k_L_reason : q_mok q_m_L_reason := ⟨rfl, by decide +kernel, rfl, by decide +kernel, by decide +kernel⟩
set_option maxRecDepth 100000 in
theorem q_k_L_release : q_mok q_m_L_release := ⟨rfl, by decide +kernel, rfl, by decide +kernel, by decide +kernel⟩
set_option maxRecDepth 100000 in
theorem q_k_L_reserved : q_mok q_m_L_reserved := ⟨rfl, by decide +kernel, rfl, by decide +kernel, by decide +kernel⟩
set_option maxRecDepth 100000 in
theorem q_k_L_restore : q_mok q_m_L_restore := ⟨rfl, by decide +kernel, rfl, by decide +kernel, by decide +kernel⟩
set_option maxRecDepth 100000 in
theorem q_k_L_robotOf : q_mok q_m_L_robotOf := ⟨rfl, by decide +kernel, rfl, by decide +kernel, by decide +kernel⟩
set_option maxRecDepth 100000 in
theorem q_k_L_set : q_mok q_m_L_set := ⟨rfl, by decide +kernel, rfl, by decide +kernel, by decide +kernel⟩
set_option maxRecDepth 100000 in
theorem q_k_L_suited : q_mok q_m_L_suited := ⟨rfl, by decide +kernel, rfl, by decide +kernel, by decide +kernel⟩
set_option maxRecDepth 100000 in
theorem q_k_L_takeOff : q_mok q_m_L_takeOff := ⟨rfl, by decide +kernel, rfl, by decide +kernel, by decide +kernel⟩
set_option maxRecDepth 100000 in
theorem q_k_L_tour : q_mok q_m_L_tour := ⟨rfl, by decide +kernel, rfl, by decide +kernel, by decide +kernel⟩
set_option maxRecDepth 100000 in
theorem q_k_L_undo : q_mok q_m_L_undo := ⟨rfl, by decide +kernel, rfl, by decide +kernel, by decide +kernel⟩
set_option maxRecDepth 100000 in
theorem q_k_L_waiting : q_mok q_m_L_waiting := ⟨rfl, by decide +kernel, rfl, by decide +kernel, by decide +kernel⟩
theorem q_mo_0 : ∀ x ∈ q_cal 0, q_mok x.2.2.2.1 := by
  unfold q_cal
  exact List.forall_mem_cons.mpr ⟨q_k_X0_measureFrom, List.forall_mem_cons.mpr ⟨q_k_X0_stepsTo, List.forall_mem_cons.mpr ⟨q_k_X6_isCell, List.forall_mem_cons.mpr ⟨q_k_J7_fill_53178, List.forall_mem_cons.mpr ⟨q_k_X6_neighbor, List.forall_mem_cons.mpr ⟨q_k_X6_canEnter, List.forall_mem_cons.mpr ⟨q_k_X6_isRobot, List.forall_mem_cons.mpr ⟨q_k_X0_between, List.forall_mem_cons.mpr ⟨q_k_X0_isBetter, List.forall_mem_cons.mpr ⟨q_k_X0_toNearestStation, List.forall_mem_cons.mpr ⟨q_k_X0_renewTable, List.forall_mem_cons.mpr ⟨q_k_X0_openCells, List.forall_mem_cons.mpr ⟨q_k_X0_fillTable, List.forall_mem_cons.mpr ⟨q_k_X0_nearOfNeighbors, List.forall_mem_cons.mpr ⟨q_k_X0_noteRound, fun _ h => absurd h List.not_mem_nil⟩⟩⟩⟩⟩⟩⟩⟩⟩⟩⟩⟩⟩⟩⟩
theorem q_mo_1 : ∀ x ∈ q_cal 1, q_mok x.2.2.2.1 := by
  unfold q_cal
  exact List.forall_mem_cons.mpr ⟨q_k_X6_init, List.forall_mem_cons.mpr ⟨q_k_X6_copyFrom, fun _ h => absurd h List.not_mem_nil⟩⟩
theorem q_mo_2 : ∀ x ∈ q_cal 2, q_mok x.2.2.2.1 := by
  unfold q_cal
  exact List.forall_mem_cons.mpr ⟨q_k_X2_isFull, List.forall_mem_cons.mpr ⟨q_k_X2_canEndRow, List.forall_mem_cons.mpr ⟨q_k_X2_endRow, List.forall_mem_cons.mpr ⟨q_k_X2_kindOf, List.forall_mem_cons.mpr ⟨q_k_X2_canGrowRow, fun _ h => absurd h List.not_mem_nil⟩⟩⟩⟩⟩
theorem q_mo_4 : ∀ x ∈ q_cal 4, q_mok x.2.2.2.1 := by
  unfold q_cal
  exact List.forall_mem_cons.mpr ⟨q_k_X4_prepare, List.forall_mem_cons.mpr ⟨q_k_J7_fill_53178, List.forall_mem_cons.mpr ⟨q_k_X4_horizon, List.forall_mem_cons.mpr ⟨q_k_X6_neighbor, List.forall_mem_cons.mpr ⟨q_k_X4_canStep, List.forall_mem_cons.mpr ⟨q_k_X4_canEndAt, List.forall_mem_cons.mpr ⟨q_k_X4_tracePath, List.forall_mem_cons.mpr ⟨q_k_X4_cellsAfter, List.forall_mem_cons.mpr ⟨q_k_X6_isCell, List.forall_mem_cons.mpr ⟨q_k_X4_canComeTo, List.forall_mem_cons.mpr ⟨q_k_X6_isRobot, List.forall_mem_cons.mpr ⟨q_k_X6_canEnter, List.forall_mem_cons.mpr ⟨q_k_J7_fill_d0a16, List.forall_mem_cons.mpr ⟨q_k_X4_noteOther, List.forall_mem_cons.mpr ⟨q_k_X5_cellAhead, List.forall_mem_cons.mpr ⟨q_k_X5_lastTickIn, List.forall_mem_cons.mpr ⟨q_k_X4_isTaken, List.forall_mem_cons.mpr ⟨q_k_X4_changesPlaces, fun _ h => absurd h List.not_mem_nil⟩⟩⟩⟩⟩⟩⟩⟩⟩⟩⟩⟩⟩⟩⟩⟩⟩⟩
theorem q_mo_5 : ∀ x ∈ q_cal 5, q_mok x.2.2.2.1 := by
  unfold q_cal
  exact List.forall_mem_cons.mpr ⟨q_k_X5_cellAhead, List.forall_mem_cons.mpr ⟨q_k_X5_lastCell, fun _ h => absurd h List.not_mem_nil⟩⟩
theorem q_mo_6 : ∀ x ∈ q_cal 6, q_mok x.2.2.2.1 := by
  unfold q_cal
  exact List.forall_mem_cons.mpr ⟨q_k_X5_init, List.forall_mem_cons.mpr ⟨q_k_X3_init, List.forall_mem_cons.mpr ⟨q_k_X5_copyFrom, List.forall_mem_cons.mpr ⟨q_k_X3_copyFrom, List.forall_mem_cons.mpr ⟨q_k_X2_kindOf, List.forall_mem_cons.mpr ⟨q_k_X6_cellCount, List.forall_mem_cons.mpr ⟨q_k_X6_isCell, List.forall_mem_cons.mpr ⟨q_k_X6_columnOf, List.forall_mem_cons.mpr ⟨q_k_X6_neighbor, List.forall_mem_cons.mpr ⟨q_k_X6_canEnter, List.forall_mem_cons.mpr ⟨q_k_X5_begin, List.forall_mem_cons.mpr ⟨q_k_X6_isRobot, List.forall_mem_cons.mpr ⟨q_k_X3_begin, List.forall_mem_cons.mpr ⟨q_k_X6_isOrder, List.forall_mem_cons.mpr ⟨q_k_X5_cellAhead, List.forall_mem_cons.mpr ⟨q_k_X5_isEverIn, List.forall_mem_cons.mpr ⟨q_k_X6_robotWith, List.forall_mem_cons.mpr ⟨q_k_X6_stateOf, List.forall_mem_cons.mpr ⟨q_k_X6_waitingBefore, List.forall_mem_cons.mpr ⟨q_k_X6_isRankedBefore, List.forall_mem_cons.mpr ⟨q_k_X3_linesLeft, List.forall_mem_cons.mpr ⟨q_k_X6_isLoaded, List.forall_mem_cons.mpr ⟨q_k_X5_goOn, List.forall_mem_cons.mpr ⟨q_k_X6_endPlan, List.forall_mem_cons.mpr ⟨q_k_X5_charge, List.forall_mem_cons.mpr ⟨q_k_X3_isNextLine, fun _ h => absurd h List.not_mem_nil⟩⟩⟩⟩⟩⟩⟩⟩⟩⟩⟩⟩⟩⟩⟩⟩⟩⟩⟩⟩⟩⟩⟩⟩⟩⟩
theorem q_mo_7 : ∀ x ∈ q_cal 7, q_mok x.2.2.2.1 := by
  unfold q_cal
  exact List.forall_mem_cons.mpr ⟨q_k_X6_init, List.forall_mem_cons.mpr ⟨q_k_X1_init, List.forall_mem_cons.mpr ⟨q_k_X2_init, List.forall_mem_cons.mpr ⟨q_k_X0_init, List.forall_mem_cons.mpr ⟨q_k_X4_init, List.forall_mem_cons.mpr ⟨q_k_X2_isFull, List.forall_mem_cons.mpr ⟨q_k_X2_take, List.forall_mem_cons.mpr ⟨q_k_X2_findFault, List.forall_mem_cons.mpr ⟨q_k_X1_keep, List.forall_mem_cons.mpr ⟨q_k_X6_rebuild, List.forall_mem_cons.mpr ⟨q_k_X6_cellCount, List.forall_mem_cons.mpr ⟨q_k_X7_refusesAdd, List.forall_mem_cons.mpr ⟨q_k_X6_putRobot, List.forall_mem_cons.mpr ⟨q_k_X6_isCell, List.forall_mem_cons.mpr ⟨q_k_X7_refuse, List.forall_mem_cons.mpr ⟨q_k_X6_canEnter, List.forall_mem_cons.mpr ⟨q_k_X7_refusesRobotsCell, List.forall_mem_cons.mpr ⟨q_k_X7_refusesTakeOff, List.forall_mem_cons.mpr ⟨q_k_X6_dropRobot, List.forall_mem_cons.mpr ⟨q_k_X6_isRobot, List.forall_mem_cons.mpr ⟨q_k_X7_refusesOrder, List.forall_mem_cons.mpr ⟨q_k_X6_putOrder, List.forall_mem_cons.mpr ⟨q_k_X6_isCellOrNone, List.forall_mem_cons.mpr ⟨q_k_X7_refusesLine, List.forall_mem_cons.mpr ⟨q_k_X7_refusesAssign, List.forall_mem_cons.mpr ⟨q_k_X3_linesLeft, List.forall_mem_cons.mpr ⟨q_k_X6_isOrder, List.forall_mem_cons.mpr ⟨q_k_X6_stateOf, List.forall_mem_cons.mpr ⟨q_k_X7_refusesRelease, List.forall_mem_cons.mpr ⟨q_k_X6_freeRobot, List.forall_mem_cons.mpr ⟨q_k_X7_refusesClose, List.forall_mem_cons.mpr ⟨q_k_X6_closedCount, List.forall_mem_cons.mpr ⟨q_k_X7_refusesOpen, List.forall_mem_cons.mpr ⟨q_k_X7_refusesSet, List.forall_mem_cons.mpr ⟨q_k_X7_refusesGoal, List.forall_mem_cons.mpr ⟨q_k_X4_findFirst, List.forall_mem_cons.mpr ⟨q_k_X7_refusesFound, List.forall_mem_cons.mpr ⟨q_k_X6_stepCost, List.forall_mem_cons.mpr ⟨q_k_X5_follow, List.forall_mem_cons.mpr ⟨q_k_X4_stepsOfPath, List.forall_mem_cons.mpr ⟨q_k_X7_refusesCancel, List.forall_mem_cons.mpr ⟨q_k_X7_refusesPass, List.forall_mem_cons.mpr ⟨q_k_X6_tick, List.forall_mem_cons.mpr ⟨q_k_X6_robotThere, List.forall_mem_cons.mpr ⟨q_k_X6_enteredNeighbors, List.forall_mem_cons.mpr ⟨q_k_X7_signOf, List.forall_mem_cons.mpr ⟨q_k_X0_between, List.forall_mem_cons.mpr ⟨q_k_X0_betweenByTable, List.forall_mem_cons.mpr ⟨q_k_X0_countFrom, List.forall_mem_cons.mpr ⟨q_k_X0_farthestFrom, List.forall_mem_cons.mpr ⟨q_k_X5_lastCell, List.forall_mem_cons.mpr ⟨q_k_X6_isLoaded, List.forall_mem_cons.mpr ⟨q_k_X5_cellAhead, List.forall_mem_cons.mpr ⟨q_k_X4_findTickByTick, List.forall_mem_cons.mpr ⟨q_k_X6_robotWith, List.forall_mem_cons.mpr ⟨q_k_X6_ordersIn, List.forall_mem_cons.mpr ⟨q_k_X6_waitingOrder, List.forall_mem_cons.mpr ⟨q_k_X0_bestRobotFor, List.forall_mem_cons.mpr ⟨q_k_X0_through, List.forall_mem_cons.mpr ⟨q_k_X6_loadedCount, List.forall_mem_cons.mpr ⟨q_k_X6_latenessSum, List.forall_mem_cons.mpr ⟨q_k_X6_stepSum, List.forall_mem_cons.mpr ⟨q_k_X6_pickedSum, List.forall_mem_cons.mpr ⟨q_k_X6_batterySum, List.forall_mem_cons.mpr ⟨q_k_X1_giveBack, List.forall_mem_cons.mpr ⟨q_k_X6_copyFrom, List.forall_mem_cons.mpr ⟨q_k_X6_lowestRobotEverIn, fun _ h => absurd h List.not_mem_nil⟩⟩⟩⟩⟩⟩⟩⟩⟩⟩⟩⟩⟩⟩⟩⟩⟩⟩⟩⟩⟩⟩⟩⟩⟩⟩⟩⟩⟩⟩⟩⟩⟩⟩⟩⟩⟩⟩⟩⟩⟩⟩⟩⟩⟩⟩⟩⟩⟩⟩⟩⟩⟩⟩⟩⟩⟩⟩⟩⟩⟩⟩⟩⟩⟩⟩⟩
theorem q_mo_8 : ∀ x ∈ q_cal 8, q_mok x.2.2.2.1 := by
  unfold q_cal
  exact List.forall_mem_cons.mpr ⟨q_k_X8_cells, List.forall_mem_cons.mpr ⟨q_k_X8_in, List.forall_mem_cons.mpr ⟨q_k_X8_at, List.forall_mem_cons.mpr ⟨q_k_X8_of, List.forall_mem_cons.mpr ⟨q_k_X8_cellOf, List.forall_mem_cons.mpr ⟨q_k_X8_isCell, List.forall_mem_cons.mpr ⟨q_k_X8_refuse, List.forall_mem_cons.mpr ⟨q_k_X8_canEnter, List.forall_mem_cons.mpr ⟨q_k_X8_willBe, List.forall_mem_cons.mpr ⟨q_k_X8_change, List.forall_mem_cons.mpr ⟨q_k_X8_isRobot, List.forall_mem_cons.mpr ⟨q_k_X8_order, List.forall_mem_cons.mpr ⟨q_k_X8_get, List.forall_mem_cons.mpr ⟨q_k_X8_isOrder, List.forall_mem_cons.mpr ⟨q_k_X8_stateOf, List.forall_mem_cons.mpr ⟨q_k_X8_closedCells, List.forall_mem_cons.mpr ⟨q_k_X8_mostOf, List.forall_mem_cons.mpr ⟨q_k_X8_beside, List.forall_mem_cons.mpr ⟨q_k_X8_mayGo, List.forall_mem_cons.mpr ⟨q_k_X8_findComing, List.forall_mem_cons.mpr ⟨q_k_X8_canEnd, List.forall_mem_cons.mpr ⟨q_k_X8_findGoing, List.forall_mem_cons.mpr ⟨q_k_X8_fewest, List.forall_mem_cons.mpr ⟨q_k_X8_isLoaded, List.forall_mem_cons.mpr ⟨q_k_X8_findPath, List.forall_mem_cons.mpr ⟨q_k_X8_ends, List.forall_mem_cons.mpr ⟨q_k_X8_tick, List.forall_mem_cons.mpr ⟨q_k_X8_findFar, List.forall_mem_cons.mpr ⟨q_k_X8_farOf, List.forall_mem_cons.mpr ⟨q_k_X8_robotIn, List.forall_mem_cons.mpr ⟨q_k_J0_charAt_5068e, List.forall_mem_cons.mpr ⟨q_k_X8_arrival, List.forall_mem_cons.mpr ⟨q_k_X8_isAhead, List.forall_mem_cons.mpr ⟨q_k_X8_overOrders, List.forall_mem_cons.mpr ⟨q_k_X8_overRobots, List.forall_mem_cons.mpr ⟨q_k_J0_indexOf_0f7a4, List.forall_mem_cons.mpr ⟨q_k_X8_wrongPlace, fun _ h => absurd h List.not_mem_nil⟩⟩⟩⟩⟩⟩⟩⟩⟩⟩⟩⟩⟩⟩⟩⟩⟩⟩⟩⟩⟩⟩⟩⟩⟩⟩⟩⟩⟩⟩⟩⟩⟩⟩⟩⟩⟩
theorem q_mo_9 : ∀ x ∈ q_cal 9, q_mok x.2.2.2.1 := by
  unfold q_cal
  exact List.forall_mem_cons.mpr ⟨q_k_X7_append, List.forall_mem_cons.mpr ⟨q_k_X7_layout, List.forall_mem_cons.mpr ⟨q_k_X7_add, List.forall_mem_cons.mpr ⟨q_k_X7_takeOff, List.forall_mem_cons.mpr ⟨q_k_X7_order, List.forall_mem_cons.mpr ⟨q_k_X7_assign, List.forall_mem_cons.mpr ⟨q_k_X7_release, List.forall_mem_cons.mpr ⟨q_k_X7_close, List.forall_mem_cons.mpr ⟨q_k_X7_open, List.forall_mem_cons.mpr ⟨q_k_X7_set, List.forall_mem_cons.mpr ⟨q_k_X7_plan, List.forall_mem_cons.mpr ⟨q_k_X7_cancel, List.forall_mem_cons.mpr ⟨q_k_X7_pass, List.forall_mem_cons.mpr ⟨q_k_X7_cell, List.forall_mem_cons.mpr ⟨q_k_X7_letter, List.forall_mem_cons.mpr ⟨q_k_X7_distance, List.forall_mem_cons.mpr ⟨q_k_X7_distanceAgain, List.forall_mem_cons.mpr ⟨q_k_X7_reach, List.forall_mem_cons.mpr ⟨q_k_X7_farthest, List.forall_mem_cons.mpr ⟨q_k_X7_robotOf, List.forall_mem_cons.mpr ⟨q_k_X7_planned, List.forall_mem_cons.mpr ⟨q_k_X7_reserved, List.forall_mem_cons.mpr ⟨q_k_X7_arrival, List.forall_mem_cons.mpr ⟨q_k_X7_arrivalAgain, List.forall_mem_cons.mpr ⟨q_k_X7_orderOf, List.forall_mem_cons.mpr ⟨q_k_X7_line, List.forall_mem_cons.mpr ⟨q_k_X7_waiting, List.forall_mem_cons.mpr ⟨q_k_X7_suited, List.forall_mem_cons.mpr ⟨q_k_X7_tour, List.forall_mem_cons.mpr ⟨q_k_X7_loaded, List.forall_mem_cons.mpr ⟨q_k_X7_lateness, List.forall_mem_cons.mpr ⟨q_k_X7_reason, List.forall_mem_cons.mpr ⟨q_k_X7_account, List.forall_mem_cons.mpr ⟨q_k_X7_undo, List.forall_mem_cons.mpr ⟨q_k_X7_restore, List.forall_mem_cons.mpr ⟨q_k_X7_init, List.forall_mem_cons.mpr ⟨q_k_X8_init, List.forall_mem_cons.mpr ⟨q_k_L_append, List.forall_mem_cons.mpr ⟨q_k_X8_append, List.forall_mem_cons.mpr ⟨q_k_X8_thrown, List.forall_mem_cons.mpr ⟨q_k_L_layout, List.forall_mem_cons.mpr ⟨q_k_X8_layout, List.forall_mem_cons.mpr ⟨q_k_X7_faultPosition, List.forall_mem_cons.mpr ⟨q_k_X8_faultPosition, List.forall_mem_cons.mpr ⟨q_k_L_add, List.forall_mem_cons.mpr ⟨q_k_X8_add, List.forall_mem_cons.mpr ⟨q_k_L_takeOff, List.forall_mem_cons.mpr ⟨q_k_X8_takeOff, List.forall_mem_cons.mpr ⟨q_k_L_order, List.forall_mem_cons.mpr ⟨q_k_X8_order_, List.forall_mem_cons.mpr ⟨q_k_L_assign, List.forall_mem_cons.mpr ⟨q_k_X8_assign, List.forall_mem_cons.mpr ⟨q_k_L_release, List.forall_mem_cons.mpr ⟨q_k_X8_release, List.forall_mem_cons.mpr ⟨q_k_L_close, List.forall_mem_cons.mpr ⟨q_k_X8_close, List.forall_mem_cons.mpr ⟨q_k_L_open, List.forall_mem_cons.mpr ⟨q_k_X8_open, List.forall_mem_cons.mpr ⟨q_k_L_set, List.forall_mem_cons.mpr ⟨q_k_X8_set, List.forall_mem_cons.mpr ⟨q_k_L_plan, List.forall_mem_cons.mpr ⟨q_k_X8_plan, List.forall_mem_cons.mpr ⟨q_k_L_cancel, List.forall_mem_cons.mpr ⟨q_k_X8_cancel, List.forall_mem_cons.mpr ⟨q_k_L_pass, List.forall_mem_cons.mpr ⟨q_k_X8_pass, List.forall_mem_cons.mpr ⟨q_k_L_cell, List.forall_mem_cons.mpr ⟨q_k_X8_cell, List.forall_mem_cons.mpr ⟨q_k_L_letter, List.forall_mem_cons.mpr ⟨q_k_X8_letter, List.forall_mem_cons.mpr ⟨q_k_L_distance, List.forall_mem_cons.mpr ⟨q_k_X8_distance, List.forall_mem_cons.mpr ⟨q_k_L_distanceAgain, List.forall_mem_cons.mpr ⟨q_k_X8_distanceAgain, List.forall_mem_cons.mpr ⟨q_k_L_reach, List.forall_mem_cons.mpr ⟨q_k_X8_reach, List.forall_mem_cons.mpr ⟨q_k_L_farthest, List.forall_mem_cons.mpr ⟨q_k_X8_farthest, List.forall_mem_cons.mpr ⟨q_k_L_robotOf, List.forall_mem_cons.mpr ⟨q_k_X8_robotOf, List.forall_mem_cons.mpr ⟨q_k_L_planned, List.forall_mem_cons.mpr ⟨q_k_X8_planned, List.forall_mem_cons.mpr ⟨q_k_L_reserved, List.forall_mem_cons.mpr ⟨q_k_X8_reserved, List.forall_mem_cons.mpr ⟨q_k_L_arrival, List.forall_mem_cons.mpr ⟨q_k_X8_arrival, List.forall_mem_cons.mpr ⟨q_k_L_arrivalAgain, List.forall_mem_cons.mpr ⟨q_k_X8_arrivalAgain, List.forall_mem_cons.mpr ⟨q_k_L_orderOf, List.forall_mem_cons.mpr ⟨q_k_X8_orderOf, List.forall_mem_cons.mpr ⟨q_k_L_line, List.forall_mem_cons.mpr ⟨q_k_X8_line, List.forall_mem_cons.mpr ⟨q_k_L_waiting, List.forall_mem_cons.mpr ⟨q_k_X8_waiting, List.forall_mem_cons.mpr ⟨q_k_L_suited, List.forall_mem_cons.mpr ⟨q_k_X8_suited, List.forall_mem_cons.mpr ⟨q_k_L_tour, List.forall_mem_cons.mpr ⟨q_k_X8_tour, List.forall_mem_cons.mpr ⟨q_k_L_loaded, List.forall_mem_cons.mpr ⟨q_k_X8_loaded, List.forall_mem_cons.mpr ⟨q_k_L_lateness, List.forall_mem_cons.mpr ⟨q_k_X8_lateness, List.forall_mem_cons.mpr ⟨q_k_L_reason, List.forall_mem_cons.mpr ⟨q_k_X8_reason, List.forall_mem_cons.mpr ⟨q_k_L_account, List.forall_mem_cons.mpr ⟨q_k_X8_account, List.forall_mem_cons.mpr ⟨q_k_L_undo, List.forall_mem_cons.mpr ⟨q_k_X8_undo, List.forall_mem_cons.mpr ⟨q_k_X7_save, List.forall_mem_cons.mpr ⟨q_k_X8_save, List.forall_mem_cons.mpr ⟨q_k_L_restore, List.forall_mem_cons.mpr ⟨q_k_X8_restore, fun _ h => absurd h List.not_mem_nil⟩⟩⟩⟩⟩⟩⟩⟩⟩⟩⟩⟩⟩⟩⟩⟩⟩⟩⟩⟩⟩⟩⟩⟩⟩⟩⟩⟩⟩⟩⟩⟩⟩⟩⟩⟩⟩⟩⟩⟩⟩⟩⟩⟩⟩⟩⟩⟩⟩⟩⟩⟩⟩⟩⟩⟩⟩⟩⟩⟩⟩⟩⟩⟩⟩⟩⟩⟩⟩⟩⟩⟩⟩⟩⟩⟩⟩⟩⟩⟩⟩⟩⟩⟩⟩⟩⟩⟩⟩⟩⟩⟩⟩⟩⟩⟩⟩⟩⟩⟩⟩⟩⟩⟩⟩⟩⟩⟩⟩⟩⟩⟩
theorem q_mo_12 : ∀ x ∈ q_cal 12, q_mok x.2.2.2.1 := by
  unfold q_cal
  exact List.forall_mem_cons.mpr ⟨q_k_J0_coder_7d493, List.forall_mem_cons.mpr ⟨q_k_J0_isLatin1_aae02, List.forall_mem_cons.mpr ⟨q_k_J1_charAt_3b067, List.forall_mem_cons.mpr ⟨q_k_J0_length_8abf5, List.forall_mem_cons.mpr ⟨q_k_J0_indexOf_7cf53, List.forall_mem_cons.mpr ⟨q_k_J1_indexOf_4cfef, List.forall_mem_cons.mpr ⟨q_k_J3_checkIndex_8e157, fun _ h => absurd h List.not_mem_nil⟩⟩⟩⟩⟩⟩⟩
theorem q_mo_13 : ∀ x ∈ q_cal 13, q_mok x.2.2.2.1 := by
  unfold q_cal
  exact List.forall_mem_cons.mpr ⟨q_k_J0_checkIndex_df160, List.forall_mem_cons.mpr ⟨q_k_J1_canEncode_9a6ad, List.forall_mem_cons.mpr ⟨q_k_J1_indexOfChar_4cfef, fun _ h => absurd h List.not_mem_nil⟩⟩⟩
theorem q_mo : ∀ o, ∀ x ∈ q_cal o, q_mok x.2.2.2.1 := by
  intro o
  match o with
  | 0 => exact q_mo_0
  | 1 => exact q_mo_1
  | 2 => exact q_mo_2
  | 3 => exact fun _ h => absurd h List.not_mem_nil
  | 4 => exact q_mo_4
  | 5 => exact q_mo_5
  | 6 => exact q_mo_6
  | 7 => exact q_mo_7
  | 8 => exact q_mo_8
  | 9 => exact q_mo_9
  | 10 => exact fun _ h => absurd h List.not_mem_nil
  | 11 => exact fun _ h => absurd h List.not_mem_nil
  | 12 => exact q_mo_12
  | 13 => exact q_mo_13
  | _ + 14 => exact fun _ h => absurd h List.not_mem_nil
theorem q_new_ok : ∀ o, o < 10 → ∀ x ∈ q_new o, lw_tbl[x.2.2.1]? = some (.classLink (q_nm o) x.1 (q_cnm x.2.1)) ∧ lw_tbl[x.2.2.2.1]? = some (.instantiable (q_cnm x.2.1) (q_N x.2.1)) ∧ lw_tbl[x.2.2.2.2]? = some (.initialized (q_cnm x.2.1)) ∧ x.2.1 < 9 := by decide +kernel
theorem q_hc_ok : ∀ x ∈ q_hc 9, lw_tbl[x.2.2]? = some (.classLink (q_nm 9) x.1 x.2.1) := by decide +kernel
theorem q_cst_ok : ∀ x ∈ q_cst, lw_tbl[x.2]? = some (.castable x.1 x.1) := by decide +kernel
theorem q_acp_ok : ∀ o, o < 10 → ∀ x ∈ q_acp o, lw_tbl[x.2]? = some (.methodLink (q_nm o) x.1 arraycopyName) := by decide +kernel
theorem q_mth_ok : ∀ o, o < 15 → ∀ x ∈ q_mth o, x.2.1 < 2 ∧ lw_tbl[x.2.2.1]? = some (.methodLink (q_nm o) x.1 (bif Nat.beq x.2.1 0 then Lib.Math.max.name else Lib.Math.min.name)) ∧ lw_tbl[x.2.2.2.1]? = some (.static (bif Nat.beq x.2.1 0 then Lib.Math.max.name else Lib.Math.min.name)) ∧ lw_tbl[x.2.2.2.2.1]? = some (.initialized "java/lang/Math") ∧ lw_tbl[x.2.2.2.2.2]? = some (bif Nat.beq x.2.1 0 then .code Lib.Math.max.name Lib.Math.max.code 2 (some .int) else .code Lib.Math.min.name Lib.Math.min.code 2 (some .int)) := by decide +kernel
theorem q_obi_ok : ∀ o, o < 10 → ∀ x ∈ q_obi o, lw_tbl[x.2]? = some (.methodLink (q_nm o) x.1 objectInit) := by decide +kernel
theorem q_ldl_ok : ∀ o, o < 10 → ∀ x ∈ q_ldl o, lw_tbl[x.2.2]? = some (.constantLong (q_nm o) x.1 x.2.1) := by decide +kernel
theorem q_ws_ok : ∀ c, c < 9 → ∀ w ∈ u_ws (q_cnm c) (q_T c) (q_N c), w ∈ lw_tbl := by decide +kernel
theorem q_nm_ok : ∀ c, c < 9 → ∀ a, a < q_N c → ∀ b, b < q_N c → a ≠ b → (q_T c a).2.1 ≠ (q_T c b).2.1 := by decide +kernel
theorem q_ty_ok : ∀ c, c < 9 → ∀ k, k < q_N c → parseFieldDescriptor (q_T c k).2.2.1 = some (q_ty c k) := by decide +kernel
theorem q_cls_ok : ∀ c, c < 9 → q_cls[c]? = some (q_cnm c, q_T c, q_N c) := by
  intro c hc
  match c, hc with
  | 0, _ => rfl
  | 1, _ => rfl
  | 2, _ => rfl
  | 3, _ => rfl
  | 4, _ => rfl
  | 5, _ => rfl
  | 6, _ => rfl
  | 7, _ => rfl
  | 8, _ => rfl
