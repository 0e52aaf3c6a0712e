section
-- ===== PART A: goes FIRST, ahead of the names: the tables' words, and 'selects' of the private methods out of them =====
/-- a private method of a class that the tables say can be made, by its rows of tables_1 -/
def lw_okq (q : MethodName × Nat) : Prop := (q.1.cls ≠ "java/lang/invoke/MethodHandle" ∧ q.1.cls ≠ "java/lang/invoke/VarHandle") ∧ Cond.instantiable q.1.cls q.2 ∈ tables_1 ∧ Cond.privateMethod q.1 ∈ tables_1 ∧ Cond.instanceMethod q.1 ∈ tables_1
theorem lw_p0 : lw_okq (⟨"java/lang/Throwable", "fillInStackTrace", "(I)Ljava/lang/Throwable;"⟩, 6) := ⟨⟨by decide +kernel, by decide +kernel⟩, List.mem_of_getElem? (i := 559) (by decide +kernel), List.mem_of_getElem? (i := 557) (by decide +kernel), List.mem_of_getElem? (i := 558) (by decide +kernel)⟩
theorem lw_p1 : lw_okq (⟨"RobotAisles$LayoutText", "canEndRow", "(I)Z"⟩, 4) := ⟨⟨by decide +kernel, by decide +kernel⟩, List.mem_of_getElem? (i := 196) (by decide +kernel), List.mem_of_getElem? (i := 719) (by decide +kernel), List.mem_of_getElem? (i := 720) (by decide +kernel)⟩
theorem lw_p2 : lw_okq (⟨"RobotAisles$LayoutText", "endRow", "(I)V"⟩, 4) := ⟨⟨by decide +kernel, by decide +kernel⟩, List.mem_of_getElem? (i := 196) (by decide +kernel), List.mem_of_getElem? (i := 723) (by decide +kernel), List.mem_of_getElem? (i := 724) (by decide +kernel)⟩
theorem lw_p3 : lw_okq (⟨"RobotAisles$LayoutText", "canGrowRow", "(I)Z"⟩, 4) := ⟨⟨by decide +kernel, by decide +kernel⟩, List.mem_of_getElem? (i := 196) (by decide +kernel), List.mem_of_getElem? (i := 732) (by decide +kernel), List.mem_of_getElem? (i := 733) (by decide +kernel)⟩
theorem lw_p4 : lw_okq (⟨"RobotAisles", "refusesSet", "(II)Z"⟩, 10) := ⟨⟨by decide +kernel, by decide +kernel⟩, List.mem_of_getElem? (i := 35) (by decide +kernel), List.mem_of_getElem? (i := 777) (by decide +kernel), List.mem_of_getElem? (i := 778) (by decide +kernel)⟩
theorem lw_p5 : lw_okq (⟨"RobotAisles", "refuse", "(II)Z"⟩, 10) := ⟨⟨by decide +kernel, by decide +kernel⟩, List.mem_of_getElem? (i := 35) (by decide +kernel), List.mem_of_getElem? (i := 781) (by decide +kernel), List.mem_of_getElem? (i := 782) (by decide +kernel)⟩
theorem lw_p6 : lw_okq (⟨"RobotAisles", "refusesAdd", "(II)Z"⟩, 10) := ⟨⟨by decide +kernel, by decide +kernel⟩, List.mem_of_getElem? (i := 35) (by decide +kernel), List.mem_of_getElem? (i := 859) (by decide +kernel), List.mem_of_getElem? (i := 860) (by decide +kernel)⟩
theorem lw_p7 : lw_okq (⟨"RobotAisles", "refusesRobotsCell", "(II)Z"⟩, 10) := ⟨⟨by decide +kernel, by decide +kernel⟩, List.mem_of_getElem? (i := 35) (by decide +kernel), List.mem_of_getElem? (i := 868) (by decide +kernel), List.mem_of_getElem? (i := 869) (by decide +kernel)⟩
theorem lw_p8 : lw_okq (⟨"RobotAisles", "refusesOrder", "(IIII)Z"⟩, 10) := ⟨⟨by decide +kernel, by decide +kernel⟩, List.mem_of_getElem? (i := 35) (by decide +kernel), List.mem_of_getElem? (i := 922) (by decide +kernel), List.mem_of_getElem? (i := 923) (by decide +kernel)⟩
theorem lw_p9 : lw_okq (⟨"RobotAisles", "refusesLine", "(I)Z"⟩, 10) := ⟨⟨by decide +kernel, by decide +kernel⟩, List.mem_of_getElem? (i := 35) (by decide +kernel), List.mem_of_getElem? (i := 930) (by decide +kernel), List.mem_of_getElem? (i := 931) (by decide +kernel)⟩
theorem lw_p10 : lw_okq (⟨"RobotAisles", "refusesAssign", "(II)Z"⟩, 10) := ⟨⟨by decide +kernel, by decide +kernel⟩, List.mem_of_getElem? (i := 35) (by decide +kernel), List.mem_of_getElem? (i := 949) (by decide +kernel), List.mem_of_getElem? (i := 950) (by decide +kernel)⟩
theorem lw_p11 : lw_okq (⟨"RobotAisles", "refusesGoal", "(II)Z"⟩, 10) := ⟨⟨by decide +kernel, by decide +kernel⟩, List.mem_of_getElem? (i := 35) (by decide +kernel), List.mem_of_getElem? (i := 967) (by decide +kernel), List.mem_of_getElem? (i := 968) (by decide +kernel)⟩
theorem lw_p12 : lw_okq (⟨"RobotAisles$Planner", "prepare", "(II)Z"⟩, 8) := ⟨⟨by decide +kernel, by decide +kernel⟩, List.mem_of_getElem? (i := 258) (by decide +kernel), List.mem_of_getElem? (i := 975) (by decide +kernel), List.mem_of_getElem? (i := 976) (by decide +kernel)⟩
theorem lw_p13 : lw_okq (⟨"RobotAisles$Planner", "noteOther", "(LRobotAisles$Robot;)V"⟩, 8) := ⟨⟨by decide +kernel, by decide +kernel⟩, List.mem_of_getElem? (i := 258) (by decide +kernel), List.mem_of_getElem? (i := 985) (by decide +kernel), List.mem_of_getElem? (i := 986) (by decide +kernel)⟩
theorem lw_p14 : lw_okq (⟨"RobotAisles$Planner", "horizon", "()I"⟩, 8) := ⟨⟨by decide +kernel, by decide +kernel⟩, List.mem_of_getElem? (i := 258) (by decide +kernel), List.mem_of_getElem? (i := 999) (by decide +kernel), List.mem_of_getElem? (i := 1000) (by decide +kernel)⟩
theorem lw_p15 : lw_okq (⟨"RobotAisles$Warehouse", "columnOf", "(I)I"⟩, 10) := ⟨⟨by decide +kernel, by decide +kernel⟩, List.mem_of_getElem? (i := 43) (by decide +kernel), List.mem_of_getElem? (i := 1011) (by decide +kernel), List.mem_of_getElem? (i := 1012) (by decide +kernel)⟩
def lw_privs_1 : List (MethodName × Nat) := [(⟨"java/lang/Throwable", "fillInStackTrace", "(I)Ljava/lang/Throwable;"⟩, 6), (⟨"RobotAisles$LayoutText", "canEndRow", "(I)Z"⟩, 4), (⟨"RobotAisles$LayoutText", "endRow", "(I)V"⟩, 4), (⟨"RobotAisles$LayoutText", "canGrowRow", "(I)Z"⟩, 4), (⟨"RobotAisles", "refusesSet", "(II)Z"⟩, 10), (⟨"RobotAisles", "refuse", "(II)Z"⟩, 10), (⟨"RobotAisles", "refusesAdd", "(II)Z"⟩, 10), (⟨"RobotAisles", "refusesRobotsCell", "(II)Z"⟩, 10), (⟨"RobotAisles", "refusesOrder", "(IIII)Z"⟩, 10), (⟨"RobotAisles", "refusesLine", "(I)Z"⟩, 10), (⟨"RobotAisles", "refusesAssign", "(II)Z"⟩, 10), (⟨"RobotAisles", "refusesGoal", "(II)Z"⟩, 10), (⟨"RobotAisles$Planner", "prepare", "(II)Z"⟩, 8), (⟨"RobotAisles$Planner", "noteOther", "(LRobotAisles$Robot;)V"⟩, 8), (⟨"RobotAisles$Planner", "horizon", "()I"⟩, 8), (⟨"RobotAisles$Warehouse", "columnOf", "(I)I"⟩, 10)]
theorem lw_r1 : ∀ q ∈ lw_privs_1, lw_okq q := List.forall_mem_cons.mpr ⟨lw_p0, List.forall_mem_cons.mpr ⟨lw_p1, List.forall_mem_cons.mpr ⟨lw_p2, List.forall_mem_cons.mpr ⟨lw_p3, List.forall_mem_cons.mpr ⟨lw_p4, List.forall_mem_cons.mpr ⟨lw_p5, List.forall_mem_cons.mpr ⟨lw_p6, List.forall_mem_cons.mpr ⟨lw_p7, List.forall_mem_cons.mpr ⟨lw_p8, List.forall_mem_cons.mpr ⟨lw_p9, List.forall_mem_cons.mpr ⟨lw_p10, List.forall_mem_cons.mpr ⟨lw_p11, List.forall_mem_cons.mpr ⟨lw_p12, List.forall_mem_cons.mpr ⟨lw_p13, List.forall_mem_cons.mpr ⟨lw_p14, List.forall_mem_cons.mpr ⟨lw_p15, fun _ h => absurd h List.not_mem_nil⟩⟩⟩⟩⟩⟩⟩⟩⟩⟩⟩⟩⟩⟩⟩⟩
theorem lw_p16 : lw_okq (⟨"RobotAisles$Planner", "canStep", "(III)Z"⟩, 8) := ⟨⟨by decide +kernel, by decide +kernel⟩, List.mem_of_getElem? (i := 258) (by decide +kernel), List.mem_of_getElem? (i := 1015) (by decide +kernel), List.mem_of_getElem? (i := 1016) (by decide +kernel)⟩
theorem lw_p17 : lw_okq (⟨"RobotAisles$Planner", "isTaken", "(II)Z"⟩, 8) := ⟨⟨by decide +kernel, by decide +kernel⟩, List.mem_of_getElem? (i := 258) (by decide +kernel), List.mem_of_getElem? (i := 1019) (by decide +kernel), List.mem_of_getElem? (i := 1020) (by decide +kernel)⟩
theorem lw_p18 : lw_okq (⟨"RobotAisles$Planner", "changesPlaces", "(III)Z"⟩, 8) := ⟨⟨by decide +kernel, by decide +kernel⟩, List.mem_of_getElem? (i := 258) (by decide +kernel), List.mem_of_getElem? (i := 1023) (by decide +kernel), List.mem_of_getElem? (i := 1024) (by decide +kernel)⟩
theorem lw_p19 : lw_okq (⟨"RobotAisles$Planner", "canEndAt", "(II)Z"⟩, 8) := ⟨⟨by decide +kernel, by decide +kernel⟩, List.mem_of_getElem? (i := 258) (by decide +kernel), List.mem_of_getElem? (i := 1027) (by decide +kernel), List.mem_of_getElem? (i := 1028) (by decide +kernel)⟩
theorem lw_p20 : lw_okq (⟨"RobotAisles$Planner", "tracePath", "(I)V"⟩, 8) := ⟨⟨by decide +kernel, by decide +kernel⟩, List.mem_of_getElem? (i := 258) (by decide +kernel), List.mem_of_getElem? (i := 1031) (by decide +kernel), List.mem_of_getElem? (i := 1032) (by decide +kernel)⟩
theorem lw_p21 : lw_okq (⟨"RobotAisles", "refusesFound", "(II)Z"⟩, 10) := ⟨⟨by decide +kernel, by decide +kernel⟩, List.mem_of_getElem? (i := 35) (by decide +kernel), List.mem_of_getElem? (i := 1035) (by decide +kernel), List.mem_of_getElem? (i := 1036) (by decide +kernel)⟩
theorem lw_p22 : lw_okq (⟨"RobotAisles", "refusesPass", "(I)Z"⟩, 10) := ⟨⟨by decide +kernel, by decide +kernel⟩, List.mem_of_getElem? (i := 35) (by decide +kernel), List.mem_of_getElem? (i := 1062) (by decide +kernel), List.mem_of_getElem? (i := 1063) (by decide +kernel)⟩
theorem lw_p23 : lw_okq (⟨"RobotAisles$Warehouse", "endPlan", "(LRobotAisles$Robot;)I"⟩, 10) := ⟨⟨by decide +kernel, by decide +kernel⟩, List.mem_of_getElem? (i := 43) (by decide +kernel), List.mem_of_getElem? (i := 1074) (by decide +kernel), List.mem_of_getElem? (i := 1075) (by decide +kernel)⟩
theorem lw_p24 : lw_okq (⟨"RobotAisles$Distances", "measureFrom", "(I)V"⟩, 9) := ⟨⟨by decide +kernel, by decide +kernel⟩, List.mem_of_getElem? (i := 221) (by decide +kernel), List.mem_of_getElem? (i := 1160) (by decide +kernel), List.mem_of_getElem? (i := 1161) (by decide +kernel)⟩
theorem lw_p25 : lw_okq (⟨"RobotAisles$Distances", "stepsTo", "(I)I"⟩, 9) := ⟨⟨by decide +kernel, by decide +kernel⟩, List.mem_of_getElem? (i := 221) (by decide +kernel), List.mem_of_getElem? (i := 1168) (by decide +kernel), List.mem_of_getElem? (i := 1169) (by decide +kernel)⟩
theorem lw_p26 : lw_okq (⟨"RobotAisles$Distances", "renewTable", "()V"⟩, 9) := ⟨⟨by decide +kernel, by decide +kernel⟩, List.mem_of_getElem? (i := 221) (by decide +kernel), List.mem_of_getElem? (i := 1192) (by decide +kernel), List.mem_of_getElem? (i := 1193) (by decide +kernel)⟩
theorem lw_p27 : lw_okq (⟨"RobotAisles$Distances", "openCells", "()J"⟩, 9) := ⟨⟨by decide +kernel, by decide +kernel⟩, List.mem_of_getElem? (i := 221) (by decide +kernel), List.mem_of_getElem? (i := 1196) (by decide +kernel), List.mem_of_getElem? (i := 1197) (by decide +kernel)⟩
theorem lw_p28 : lw_okq (⟨"RobotAisles$Distances", "fillTable", "()V"⟩, 9) := ⟨⟨by decide +kernel, by decide +kernel⟩, List.mem_of_getElem? (i := 221) (by decide +kernel), List.mem_of_getElem? (i := 1200) (by decide +kernel), List.mem_of_getElem? (i := 1201) (by decide +kernel)⟩
theorem lw_p29 : lw_okq (⟨"RobotAisles$Distances", "nearOfNeighbors", "(I)J"⟩, 9) := ⟨⟨by decide +kernel, by decide +kernel⟩, List.mem_of_getElem? (i := 221) (by decide +kernel), List.mem_of_getElem? (i := 1204) (by decide +kernel), List.mem_of_getElem? (i := 1205) (by decide +kernel)⟩
theorem lw_p30 : lw_okq (⟨"RobotAisles$Planner", "cellsAfter", "(JI)J"⟩, 8) := ⟨⟨by decide +kernel, by decide +kernel⟩, List.mem_of_getElem? (i := 258) (by decide +kernel), List.mem_of_getElem? (i := 1251) (by decide +kernel), List.mem_of_getElem? (i := 1252) (by decide +kernel)⟩
theorem lw_p31 : lw_okq (⟨"RobotAisles$Planner", "canComeTo", "(IJI)Z"⟩, 8) := ⟨⟨by decide +kernel, by decide +kernel⟩, List.mem_of_getElem? (i := 258) (by decide +kernel), List.mem_of_getElem? (i := 1255) (by decide +kernel), List.mem_of_getElem? (i := 1256) (by decide +kernel)⟩
def lw_privs_2 : List (MethodName × Nat) := [(⟨"RobotAisles$Planner", "canStep", "(III)Z"⟩, 8), (⟨"RobotAisles$Planner", "isTaken", "(II)Z"⟩, 8), (⟨"RobotAisles$Planner", "changesPlaces", "(III)Z"⟩, 8), (⟨"RobotAisles$Planner", "canEndAt", "(II)Z"⟩, 8), (⟨"RobotAisles$Planner", "tracePath", "(I)V"⟩, 8), (⟨"RobotAisles", "refusesFound", "(II)Z"⟩, 10), (⟨"RobotAisles", "refusesPass", "(I)Z"⟩, 10), (⟨"RobotAisles$Warehouse", "endPlan", "(LRobotAisles$Robot;)I"⟩, 10), (⟨"RobotAisles$Distances", "measureFrom", "(I)V"⟩, 9), (⟨"RobotAisles$Distances", "stepsTo", "(I)I"⟩, 9), (⟨"RobotAisles$Distances", "renewTable", "()V"⟩, 9), (⟨"RobotAisles$Distances", "openCells", "()J"⟩, 9), (⟨"RobotAisles$Distances", "fillTable", "()V"⟩, 9), (⟨"RobotAisles$Distances", "nearOfNeighbors", "(I)J"⟩, 9), (⟨"RobotAisles$Planner", "cellsAfter", "(JI)J"⟩, 8), (⟨"RobotAisles$Planner", "canComeTo", "(IJI)Z"⟩, 8)]
theorem lw_r2 : ∀ q ∈ lw_privs_2, lw_okq q := List.forall_mem_cons.mpr ⟨lw_p16, List.forall_mem_cons.mpr ⟨lw_p17, List.forall_mem_cons.mpr ⟨lw_p18, List.forall_mem_cons.mpr ⟨lw_p19, List.forall_mem_cons.mpr ⟨lw_p20, List.forall_mem_cons.mpr ⟨lw_p21, List.forall_mem_cons.mpr ⟨lw_p22, List.forall_mem_cons.mpr ⟨lw_p23, List.forall_mem_cons.mpr ⟨lw_p24, List.forall_mem_cons.mpr ⟨lw_p25, List.forall_mem_cons.mpr ⟨lw_p26, List.forall_mem_cons.mpr ⟨lw_p27, List.forall_mem_cons.mpr ⟨lw_p28, List.forall_mem_cons.mpr ⟨lw_p29, List.forall_mem_cons.mpr ⟨lw_p30, List.forall_mem_cons.mpr ⟨lw_p31, fun _ h => absurd h List.not_mem_nil⟩⟩⟩⟩⟩⟩⟩⟩⟩⟩⟩⟩⟩⟩⟩⟩
theorem lw_p32 : lw_okq (⟨"RobotAisles$Warehouse", "waitingBefore", "(I)I"⟩, 10) := ⟨⟨by decide +kernel, by decide +kernel⟩, List.mem_of_getElem? (i := 43) (by decide +kernel), List.mem_of_getElem? (i := 1273) (by decide +kernel), List.mem_of_getElem? (i := 1274) (by decide +kernel)⟩
theorem lw_p33 : lw_okq (⟨"RobotAisles$Warehouse", "isRankedBefore", "(II)Z"⟩, 10) := ⟨⟨by decide +kernel, by decide +kernel⟩, List.mem_of_getElem? (i := 43) (by decide +kernel), List.mem_of_getElem? (i := 1277) (by decide +kernel), List.mem_of_getElem? (i := 1278) (by decide +kernel)⟩
theorem lw_p34 : lw_okq (⟨"RobotAisles$Distances", "isBetter", "(IIII)Z"⟩, 9) := ⟨⟨by decide +kernel, by decide +kernel⟩, List.mem_of_getElem? (i := 221) (by decide +kernel), List.mem_of_getElem? (i := 1303) (by decide +kernel), List.mem_of_getElem? (i := 1304) (by decide +kernel)⟩
theorem lw_p35 : lw_okq (⟨"RobotAisles", "refusesTakeOff", "(I)Z"⟩, 10) := ⟨⟨by decide +kernel, by decide +kernel⟩, List.mem_of_getElem? (i := 35) (by decide +kernel), List.mem_of_getElem? (i := 1387) (by decide +kernel), List.mem_of_getElem? (i := 1388) (by decide +kernel)⟩
theorem lw_p36 : lw_okq (⟨"RobotAisles", "refusesRelease", "(I)Z"⟩, 10) := ⟨⟨by decide +kernel, by decide +kernel⟩, List.mem_of_getElem? (i := 35) (by decide +kernel), List.mem_of_getElem? (i := 1402) (by decide +kernel), List.mem_of_getElem? (i := 1403) (by decide +kernel)⟩
theorem lw_p37 : lw_okq (⟨"RobotAisles", "refusesClose", "(I)Z"⟩, 10) := ⟨⟨by decide +kernel, by decide +kernel⟩, List.mem_of_getElem? (i := 35) (by decide +kernel), List.mem_of_getElem? (i := 1417) (by decide +kernel), List.mem_of_getElem? (i := 1418) (by decide +kernel)⟩
theorem lw_p38 : lw_okq (⟨"RobotAisles", "refusesOpen", "(I)Z"⟩, 10) := ⟨⟨by decide +kernel, by decide +kernel⟩, List.mem_of_getElem? (i := 35) (by decide +kernel), List.mem_of_getElem? (i := 1428) (by decide +kernel), List.mem_of_getElem? (i := 1429) (by decide +kernel)⟩
theorem lw_p39 : lw_okq (⟨"RobotAisles", "refusesCancel", "(I)Z"⟩, 10) := ⟨⟨by decide +kernel, by decide +kernel⟩, List.mem_of_getElem? (i := 35) (by decide +kernel), List.mem_of_getElem? (i := 1439) (by decide +kernel), List.mem_of_getElem? (i := 1440) (by decide +kernel)⟩
def lw_privs_3 : List (MethodName × Nat) := [(⟨"RobotAisles$Warehouse", "waitingBefore", "(I)I"⟩, 10), (⟨"RobotAisles$Warehouse", "isRankedBefore", "(II)Z"⟩, 10), (⟨"RobotAisles$Distances", "isBetter", "(IIII)Z"⟩, 9), (⟨"RobotAisles", "refusesTakeOff", "(I)Z"⟩, 10), (⟨"RobotAisles", "refusesRelease", "(I)Z"⟩, 10), (⟨"RobotAisles", "refusesClose", "(I)Z"⟩, 10), (⟨"RobotAisles", "refusesOpen", "(I)Z"⟩, 10), (⟨"RobotAisles", "refusesCancel", "(I)Z"⟩, 10)]
theorem lw_r3 : ∀ q ∈ lw_privs_3, lw_okq q := List.forall_mem_cons.mpr ⟨lw_p32, List.forall_mem_cons.mpr ⟨lw_p33, List.forall_mem_cons.mpr ⟨lw_p34, List.forall_mem_cons.mpr ⟨lw_p35, List.forall_mem_cons.mpr ⟨lw_p36, List.forall_mem_cons.mpr ⟨lw_p37, List.forall_mem_cons.mpr ⟨lw_p38, List.forall_mem_cons.mpr ⟨lw_p39, fun _ h => absurd h List.not_mem_nil⟩⟩⟩⟩⟩⟩⟩⟩
def lw_privs : List (MethodName × Nat) := lw_privs_1 ++ (lw_privs_2 ++ (lw_privs_3))
/-- private methods of AbstractStringBuilder, on a StringBuilder -/
def lw_sbx : List MethodName := [⟨"java/lang/AbstractStringBuilder", "ensureCapacityInternal", "(I)V"⟩, ⟨"java/lang/AbstractStringBuilder", "newCapacity", "(I)I"⟩, ⟨"java/lang/AbstractStringBuilder", "putStringAt", "(ILjava/lang/String;)V"⟩, ⟨"java/lang/AbstractStringBuilder", "inflateIfNeededFor", "(Ljava/lang/String;)V"⟩]
def lw_sbs : List Cond := lw_sbx.map fun y => Cond.selects "java/lang/StringBuilder" y y
def lw_tbl : List Cond := (k2_sels lw_privs ++ tables_1) ++ lw_sbs
theorem lw_sbx_ok : ∀ y ∈ lw_sbx, (y.cls ≠ "java/lang/invoke/MethodHandle" ∧ y.cls ≠ "java/lang/invoke/VarHandle") ∧ Cond.privateMethod y ∈ tables_1 ∧ Cond.instanceMethod y ∈ tables_1 := by decide +kernel
theorem lw_sbc : ∀ y ∈ lw_sbx, (⟨"java/lang/AbstractStringBuilder", "isLatin1", "()Z"⟩ : MethodName).cls = y.cls := by decide +kernel
theorem lw_sbi : Cond.instantiable "java/lang/StringBuilder" 4 ∈ tables_1 := by decide +kernel
theorem lw_sli : Cond.selects "java/lang/StringBuilder" ⟨"java/lang/AbstractStringBuilder", "isLatin1", "()Z"⟩ ⟨"java/lang/AbstractStringBuilder", "isLatin1", "()Z"⟩ ∈ tables_1 := by decide +kernel
theorem lw_selp {C : String} {y z : MethodName} {s : State} {args : Array Value} {n : Nat} (hz : z.cls = y.cls) (hsl : (Cond.selects C z z).before args s = true) (hy : y.cls ≠ "java/lang/invoke/MethodHandle" ∧ y.cls ≠ "java/lang/invoke/VarHandle")
    (hins : (Cond.instantiable C n).before args s = true) (hpriv : (Cond.privateMethod y).before args s = true) (hinst : (Cond.instanceMethod y).before args s = true) : (Cond.selects C y y).before args s = true := by
  obtain ⟨c, k, hc, hk, -, hniab, -, -⟩ := Cond.instantiable_spec hins
  obtain ⟨mk, methM, hnamed, hmethM, -, -⟩ := Cond.instanceMethod_spec hinst
  have hfound : s.methodFound? y.cls y.name y.desc = some mk := State.methodFound?_of_named hnamed hy
  have hsel : selectMethod {} s.vm c mk = .method mk := selectMethod_private hmethM (Cond.privateMethod_at hpriv mk methM hnamed hmethM)
  obtain ⟨c2, r2, m2, q1, q2, q3, q4, kk, q5, q6⟩ := Cond.selects_spec hsl
  have e2 := findClass_of_methodNamed q3
  have e1 := findClass_of_methodNamed hnamed
  rw [hz, e1] at e2
  have e3 : mk.cls = m2.cls := Option.some.inj e2
  simp only [Cond.before, Cond.holds, Cond.value, hc, hfound, hnamed, hsel]
  simp [e3, q5, q6]
theorem lw_hts {args : Array Value} {s : State} (h : ∀ w ∈ k2_sels lw_privs ++ tables_1, w.before args s = true) : ∀ w ∈ lw_tbl, w.before args s = true := by
  intro w hw
  rcases List.mem_append.mp hw with hw | hw
  · exact h w hw
  · obtain ⟨y, hy, rfl⟩ := List.mem_map.mp hw
    obtain ⟨h0, h1, h2⟩ := lw_sbx_ok y hy
    exact lw_selp (lw_sbc y hy) (h _ (List.mem_append_right _ lw_sli)) h0 (h _ (List.mem_append_right _ lw_sbi)) (h _ (List.mem_append_right _ h1)) (h _ (List.mem_append_right _ h2))
theorem lw_privs_ok : ∀ q ∈ lw_privs, lw_okq q := by
  show ∀ q ∈ lw_privs_1 ++ (lw_privs_2 ++ (lw_privs_3)), lw_okq q
  exact List.forall_mem_append.mpr ⟨lw_r1, List.forall_mem_append.mpr ⟨lw_r2, lw_r3⟩⟩
/-- the streams that the claim lets the run draw from -/
abbrev lw_cs : List Choice := [Jvm.Choice.named "NaN.bits"]
theorem lw_bits : nanBits ∈ lw_cs := by first | decide | exact List.mem_cons_self | simp [lw_cs, nanBits]
-- ===== end of PART A; then your names; then what follows =====
end
section
/-! ===== BEGIN words of one list among another's, by their places ===== -/
theorem goodIn_r {big : List Cond} (ws : List Cond) (ps : List Nat) (hp : ws = ps.filterMap (fun i => big[i]?)) (h : ws.all goodWord = true) : GoodIn big ws := by
  intro w hw
  have h1 := List.all_eq_true.mp h w hw
  rw [hp] at hw
  obtain ⟨i, -, hi⟩ := List.mem_filterMap.mp hw
  have hm : w ∈ big := by first | exact List.mem_of_getElem? hi | exact List.getElem?_mem hi
  exact ⟨hm, good_of_word h1⟩
theorem goodIn_app {big a b : List Cond} (ha : GoodIn big a) (hb : GoodIn big b) : GoodIn big (a ++ b) := fun w h => (List.mem_append.mp h).elim (ha w) (hb w)
theorem goodIn_ca {big a b : List Cond} {c : Cond} (ha : GoodIn big (c :: a)) (hb : GoodIn big b) : GoodIn big (c :: (a ++ b)) := fun w h => (List.mem_cons.mp h).elim (fun e => ha w (List.mem_cons.mpr (Or.inl e))) (fun h => (List.mem_append.mp h).elim (fun h => ha w (List.mem_cons.mpr (Or.inr h))) (hb w))
theorem goodIn_sub {big ws : List Cond} (hm : ∀ w ∈ ws, w ∈ big) (h : ws.all goodWord = true) : GoodIn big ws := fun w hw => ⟨hm w hw, good_of_word (List.all_eq_true.mp h w hw)⟩
/-! ===== END ===== -/


/-! ===== BEGIN exceptions that leave a method, and their catching by the caller (launches without stack traces) ===== -/
section VXA
/-! The laws vx_back, vx_callV, vx_callS, vx_callSW, vx_throw0, vx_throwS follow proofs of the library, with one case more: JvmDerived/Free/Laws.lean (Back.of_free), Shelf42/LK1.lean (callV, callS), Shelf/KitTraced.lean (throwNew0V, throwNewS). -/
/-- where a method has thrown q: the class by its name, the cell, what was written, the world -/
def vx_T (XC : String → State → State → Prop) (st : State) (q : Addr) (t : State) (mc ms : Nat) (free : Addr → Prop) : Prop :=
  ∃ (E : String) (ce : Cell) (L : List Loc), XC E st t ∧ t.heap[q]? = some ce ∧ ce.vm = .none ∧ st.vm.findClass E = some ce.cls ∧ st.WarmedH t.vm ∧ st.sameButNew ({ t with vm := st.vm } : State) L mc ms ∧ ∀ z ∈ L, free z.base
def vx_Q (Qc : Array Value → State → Outcome → State → Prop) (XC : String → State → State → Prop) (mc ms : Nat) (free : Addr → Prop) : Array Value → State → Outcome → State → Prop := fun a st o t =>
  (Qc a st o t ∧ ∃ L, FrameEnd st o t L mc ms ∧ ∀ q ∈ L, free q.base) ∨ ∃ q, o = .threw q ∧ vx_T XC st q t mc ms free
/-- a callee that returns or throws -/
def vx_Met (l : Launch) (y : MethodName) (ws : List Cond) (rm : Room) (Pc : Array Value → State → Prop) (Qc : Array Value → State → Outcome → State → Prop) (XC : String → State → State → Prop) (mc ms : Nat) (free : Addr → Prop) : Prop :=
  MetFree l y (headSpec ws rm) Pc (fun _ _ _ _ _ => True) (vx_Q Qc XC mc ms free)
def vx_Post (XC : String → State → State → Prop) (mc ms : Nat) (free : Addr → Prop) : Pt → Array Value → Addr → Pt → Prop := fun A a q B =>
  ∃ (g : JFrame) (mk : MethodId) (t : State) (L : List Loc) (E : String) (ce : Cell), B.U.heap = t.heap ∧ B.U.vm = t.vm ∧ XC E (A.U.calling g mk a) t ∧ t.heap[q]? = some ce ∧ ce.vm = .none ∧ A.U.vm.findClass E = some ce.cls ∧ B.locs = A.locs ++ L ∧ (∀ z ∈ L, free z.base) ∧ B.cells = A.cells + mc ∧ B.slots = A.slots + ms
def vx_Back (l : Launch) (R : Room) (p : Program) (e : Env) (below : List Frame) (s : State) (sargs : Array Value) (y : MethodName) (len W9 : Nat)
    (Pre : Pt → Array Value → Prop) (Post : Pt → Array Value → Option Value → Pt → Prop) (PostX : Pt → Array Value → Addr → Pt → Prop) : Prop :=
  ∀ (m : MethodId) (meth : Method) (c : Code) (A : Pt) (g : JFrame) (ig : Instr) (mk : MethodId) (a : Array Value),
    Stand p l e R s m sargs below meth c A.U A.locs A.cells A.slots → g.method = m → g.locals.size = c.maxLocals → decode c.code g.pc = .ok (ig, len) →
    2 * g.monitorRoom + (g.stack.map fun v => v.category).sum ≤ W9 → A.U.methodNamed? y = some mk → Pre A a →
    (∃ (v : Option Value) (B : Pt), Stand p l e R s m sargs below meth c B.U B.locs B.cells B.slots ∧ Post A a v B ∧
      Steps p.tables e below (doInvoke e (A.U.setTop g) [] mk a).1 (B.U.setTop { g with pc := g.pc + len, stack := v.toList ++ g.stack })) ∨
    (∃ (q : Addr) (B : Pt), Stand p l e R s m sargs below meth c B.U B.locs B.cells B.slots ∧ PostX A a q B ∧
      Steps p.tables e below (doInvoke e (A.U.setTop g) [] mk a).1 ((B.U.setTop g).pushFrame (.throwing q)))
section Payer
variable {l : Launch} {R : Room} {p : Program} {e : Env} {below : List Frame} {s : State} {sargs : Array Value} {y : MethodName} {len W9 : Nat}
theorem vx_back {ws : List Cond} {rm : Room} {Pc : Array Value → State → Prop} {Qc : Array Value → State → Outcome → State → Prop} {XC : String → State → State → Prop} {mc ms : Nat} {free : Addr → Prop} {bytes : ByteArray} {maxL : Nat} {ret : Option FieldType}
    (hM : vx_Met l y ws rm Pc Qc XC mc ms free) (hblind : FrameBlind Pc) (hrc : rm.cells = mc) (hrs : rm.slots = ms)
    (hframes : rm.frames + 1 ≤ R.frames) (hlocals : W9 + (maxL + 11) + rm.locals ≤ R.locals)
    (hws : ∀ w ∈ ws, ∀ a' U, s.WarmedH U.vm → w.before a' U = true) (hcode : Cond.code y bytes maxL ret ∈ ws) (hinit : ∀ a' U, s.WarmedH U.vm → (Cond.initialized y.cls).before a' U = true) :
    vx_Back l R p e below s sargs y len W9 (PreOf R mc ms Pc) (PostOf Qc mc ms free) (vx_Post XC mc ms free) := by
  intro m meth c A g ig mk a X hg hsize hdg hW hn hp
  have h1 : (headSpec ws rm).pre.before a A.U = true := atoms_intro fun w hw => hws w hw _ _ X.warmed
  have h2 : (Cond.code y bytes maxL ret).before a A.U = true := hws _ hcode _ _ X.warmed
  have h3 : (Cond.initialized y.cls).before a A.U = true := hinit _ _ X.warmed
  have h4 : A.cells + (headSpec ws rm).room.cells ≤ R.cells := by rw [show (headSpec ws rm).room.cells = mc from hrc]; exact hp.1
  have h5 : A.slots + (headSpec ws rm).room.slots ≤ R.slots := by rw [show (headSpec ws rm).room.slots = ms from hrs]; exact hp.2.1
  have hPc : Pc a (A.U.calling g mk a) := hblind _ _ _ _ hp.2.2
  obtain ⟨U, Ls, c0, s0⟩ := A
  dsimp only [Pt.U, Pt.locs, Pt.cells, Pt.slots] at h1 h2 h3 h4 h5 X hn hPc ⊢
  obtain ⟨methY, cY, hmY, hcY, -, hlY, -, -, -, -⟩ := Cond.code_spec hn h2
  obtain ⟨kY, hkY, -⟩ := className_of_methodNamed hn
  have hinitY : kY.init = .initialized := Cond.initialized_spec (findClass_of_methodNamed hn) hkY h3
  have h : At U g.method c below := by rw [hg]; exact X.here
  have hlocals9 : W9 + (maxL + 11) + (headSpec ws rm).room.locals ≤ R.locals := hlocals
  have happ : (headSpec ws rm).appliesLoose y e.platform (U.calling g mk a) = true :=
    Spec.appliesLoose_calling (g := g) h hdg hn hkY hinitY
      (X.room_calling (g := g) (R' := (headSpec ws rm).room) hsize hmY hcY hframes (by rw [hlY]; omega) h4 h5) h1
  obtain ⟨mid, hmid⟩ := h.above
  have hfr : (U.setTop g).frames = (.java g :: mid) ++ below := by rw [State.frames_setTop' g h.top, hmid]; rfl
  obtain ⟨o, s₂, hsteps, -, hend, hq⟩ := Steps.callFree hM p X.admits X.cas X.clock (acts := []) hfr happ hPc trivial
  have hq' : vx_Q Qc XC mc ms free a (U.calling g mk a) o s₂ := hq
  rw [State.frames_setTop' g h.top] at hend
  obtain ⟨g₀, hg0⟩ := Option.isSome_iff_exists.mp h.top
  obtain ⟨r, hr⟩ := State.topJava?_eq_some.mp hg0
  have hr' : (({ U with heap := s₂.heap, slotsUsed := s₂.slotsUsed } : State).setVm s₂.vm).frames = .java g₀ :: r := hr
  rcases hq' with ⟨hqc, L, hfe, hL⟩ | ⟨q, rfl, E, ce, L, hx, hce, hcv, hcl, hW₂, hsm, hL⟩
  · obtain ⟨⟨v, rfl⟩, hW₂, e2, q2, q3, q4, q5, q6⟩ := id hfe
    have e3 : s₂ = ({ (U.calling g mk a).setFrames s₂.frames with heap := s₂.heap, slotsUsed := s₂.slotsUsed } : State).setVm s₂.vm := by
      have : s₂ = ({ s₂ with vm := (U.calling g mk a).vm } : State).setVm s₂.vm := rfl
      rw [e2] at this
      exact this
    obtain ⟨c₂, i₂, len₂, hc₂, hd₂, hf₂⟩ := hend
    have hW' : U.WarmedH s₂.vm := hW₂
    have hcc : c₂ = c := by
      have h1 : s₂.code? g.method = U.code? g.method := by
        rw [State.code?_eq, State.code?_eq, hW'.alike.method?]
      exact Option.some.inj (hc₂.symm.trans (h1.trans h.code))
    subst hcc
    have hlen : len₂ = len := by rw [hdg] at hd₂; cases hd₂; rfl
    subst hlen
    have hs₂ : s₂ = (({ U with heap := s₂.heap, slotsUsed := s₂.slotsUsed } : State).setVm s₂.vm).setTop { g with pc := g.pc + len₂, stack := v.toList ++ g.stack } := by
      refine e3.trans ?_
      rw [hf₂, State.calling_eq h.top, State.setFrames_setFrames, State.setTop_of_frames _ hr', hr]
      rfl
    have hsame : U.sameButNew ({ U with heap := s₂.heap, slotsUsed := s₂.slotsUsed } : State) L mc ms := by
      refine ⟨?_, q2, q3, q4, q5, q6⟩
      obtain ⟨t, ht, -⟩ := State.frames_cons hr
      show ({ U with heap := s₂.heap, slotsUsed := s₂.slotsUsed } : State) = { U.setFrames U.frames with heap := s₂.heap, slotsUsed := s₂.slotsUsed }
      rw [State.setFrames_self ht]
    subst hg
    refine Or.inl ⟨v, ⟨(({ U with heap := s₂.heap, slotsUsed := s₂.slotsUsed } : State).setVm s₂.vm), Ls ++ L, c0 + mc, s0 + ms⟩,
      ⟨X.admits, X.cas, X.clock, X.frames, X.room, X.hears, X.method, X.code, (X.here.setHeapUsed s₂.heap s₂.slotsUsed).setVm hW'.alike, X.tail, State.WarmedH.trans X.warmed hW', X.limits, X.bytes, X.same.trans (hsame.setVm s.vm)⟩,
      ⟨g, mk, s₂, L, rfl, rfl, hqc, rfl, hL, rfl, rfl⟩, ?_⟩
    show Steps p.tables e below _ ((({ U with heap := s₂.heap, slotsUsed := s₂.slotsUsed } : State).setVm s₂.vm).setTop { g with pc := g.pc + len₂, stack := v.toList ++ g.stack })
    rw [← hs₂]
    exact hsteps
  · obtain ⟨e2, q2, q3, q4, q5, q6⟩ := id hsm
    have e3 : s₂ = ({ (U.calling g mk a).setFrames s₂.frames with heap := s₂.heap, slotsUsed := s₂.slotsUsed } : State).setVm s₂.vm := by
      have : s₂ = ({ s₂ with vm := (U.calling g mk a).vm } : State).setVm s₂.vm := rfl
      rw [e2] at this
      exact this
    have hf₂ : s₂.frames = .throwing q :: .java g :: U.frames.tail := hend
    have hW' : U.WarmedH s₂.vm := hW₂
    have hs₂ : s₂ = ((({ U with heap := s₂.heap, slotsUsed := s₂.slotsUsed } : State).setVm s₂.vm).setTop g).pushFrame (.throwing q) := by
      refine e3.trans ?_
      rw [hf₂, State.calling_eq h.top, State.setFrames_setFrames, State.pushFrame, State.frames_setTop _ hr', State.setTop_of_frames _ hr', State.setFrames_setFrames, hr]
      rfl
    have hsame : U.sameButNew ({ U with heap := s₂.heap, slotsUsed := s₂.slotsUsed } : State) L mc ms := by
      refine ⟨?_, q2, q3, q4, q5, q6⟩
      obtain ⟨t, ht, -⟩ := State.frames_cons hr
      show ({ U with heap := s₂.heap, slotsUsed := s₂.slotsUsed } : State) = { U.setFrames U.frames with heap := s₂.heap, slotsUsed := s₂.slotsUsed }
      rw [State.setFrames_self ht]
    subst hg
    refine Or.inr ⟨q, ⟨(({ U with heap := s₂.heap, slotsUsed := s₂.slotsUsed } : State).setVm s₂.vm), Ls ++ L, c0 + mc, s0 + ms⟩,
      ⟨X.admits, X.cas, X.clock, X.frames, X.room, X.hears, X.method, X.code, (X.here.setHeapUsed s₂.heap s₂.slotsUsed).setVm hW'.alike, X.tail, State.WarmedH.trans X.warmed hW', X.limits, X.bytes, X.same.trans (hsame.setVm s.vm)⟩,
      ⟨g, mk, s₂, L, E, ce, rfl, rfl, hx, hce, hcv, hcl, rfl, hL, rfl, rfl⟩, ?_⟩
    show Steps p.tables e below _ (((({ U with heap := s₂.heap, slotsUsed := s₂.slotsUsed } : State).setVm s₂.vm).setTop g).pushFrame (.throwing q))
    rw [← hs₂]
    exact hsteps
end Payer
section Calls
variable {p : Program} {l : Launch} {e : Env} {R : Room} {s : State} {m : MethodId} {args : Array Value} {below : List Frame} {meth : Method} {c : Code} {T : State} {locs : List Loc} {cells slots : Nat}
theorem vx_callV (X : Stand p l e R s m args below meth c T locs cells slots) (hexec : p.tables.exec = Jvm.exec) {own C : String} {index : Nat} {y : MethodName} {bytes : ByteArray} {maxL : Nat} {ret : Option FieldType}
    (hown : s.vm.findClass own = some m.cls) (hlink : (Cond.methodLink own index y).before args s = true) (hinst : (Cond.instanceMethod y).before args s = true) (hsel : (Cond.selects C y y).before args s = true)
    (hcode : (Cond.code y bytes maxL ret).before args s = true) (hy : y.cls ≠ "java/lang/invoke/MethodHandle" ∧ y.cls ≠ "java/lang/invoke/VarHandle")
    {W9 : Nat} {Pre : Pt → Array Value → Prop} {Post : Pt → Array Value → Option Value → Pt → Prop} {PostX : Pt → Array Value → Addr → Pt → Prop} (hK : vx_Back l R p e below s args y 3 W9 Pre Post PostX)
    {b : Addr} {cellB : Cell} (hcell : T.heap[b]? = some cellB) (hobj : cellB.vm.isStatics = false) (hcls : s.vm.findClass C = some cellB.cls)
    {g : JFrame} (hg : g.method = m) (hsize : g.locals.size = c.maxLocals) {argsL rest : List Value} (hlen : ∀ sig, parseMethodDescriptor y.desc = some sig → argsL.length = sig.parameters.length)
    (hstack : g.stack = argsL.reverse ++ .ref b :: rest) (hW : 2 * g.monitorRoom + (rest.map fun v => v.category).sum ≤ W9) (hdg : decode c.code g.pc = .ok (.invokevirtual index, 3))
    (hpre : ∀ vm₁, s.WarmedH vm₁ → Pre ⟨T.setVm vm₁, locs, cells, slots⟩ (Value.ref b :: argsL).toArray) :
    (∃ (v : Option Value) (vm₁ : Vm) (B : Pt), s.WarmedH vm₁ ∧ Stand p l e R s m args below meth c B.U B.locs B.cells B.slots ∧ Post ⟨T.setVm vm₁, locs, cells, slots⟩ (Value.ref b :: argsL).toArray v B ∧
      ∀ target, Steps p.tables e below (B.U.setTop { g with pc := g.pc + 3, stack := v.toList ++ rest }) target → Steps p.tables e below (T.setTop g) target) ∨
    (∃ (q : Addr) (vm₁ : Vm) (B : Pt), s.WarmedH vm₁ ∧ Stand p l e R s m args below meth c B.U B.locs B.cells B.slots ∧ PostX ⟨T.setVm vm₁, locs, cells, slots⟩ (Value.ref b :: argsL).toArray q B ∧
      Steps p.tables e below (T.setTop g) ((B.U.setTop { g with stack := rest }).pushFrame (.throwing q))) := by
  obtain ⟨mk, methM, hnamed, hmethM, hstM, habM⟩ := Cond.instanceMethod_spec hinst
  obtain ⟨methM', cM, hmethM', -, -, -, -, -, -, hsigM⟩ := Cond.code_spec hnamed hcode
  cases hmethM.symm.trans hmethM'
  obtain ⟨c2, r2, m2, q1, q2, q3, q4, kP, hkP, hkPi⟩ := Cond.selects_spec hsel
  cases hcls.symm.trans q1
  cases (State.methodFound?_of_named hnamed hy).symm.trans q2
  cases hnamed.symm.trans q3
  have hselP : selectMethod e.platform s.vm cellB.cls mk = .method mk := by rw [Launch.admits_selectMethod X.admits]; exact q4
  obtain ⟨vm₁, X₁, hstep₁⟩ := X.invokevirtual hexec hown hlink hnamed hmethM hstM hkP hkPi hy (a := b) (cell := cellB) hcell
    (fun z h => by rw [h] at hobj; cases hobj) hselP hmethM habM hkP hkPi (g := g) hg (argsL := argsL) (rest := rest) (hlen _ hsigM) hstack hdg
  rcases hK m meth c ⟨T.setVm vm₁, locs, cells, slots⟩ { g with stack := rest } (.invokevirtual index) mk (Value.ref b :: argsL).toArray X₁ hg hsize hdg hW (X₁.named hnamed) (hpre vm₁ X₁.warmed) with ⟨v, B, X', hpost, hsteps⟩ | ⟨q, B, X', hpost, hsteps⟩
  · exact Or.inl ⟨v, vm₁, B, X₁.warmed, X', hpost, fun target h => hstep₁ _ fun acts => by rw [doInvoke_state]; exact hsteps.trans h⟩
  · exact Or.inr ⟨q, vm₁, B, X₁.warmed, X', hpost, hstep₁ _ fun acts => by rw [doInvoke_state]; exact hsteps⟩
theorem vx_callS (X : Stand p l e R s m args below meth c T locs cells slots) (hexec : p.tables.exec = Jvm.exec) {own : String} {index : Nat} {y : MethodName} {bytes : ByteArray} {maxL : Nat} {ret : Option FieldType}
    (hown : s.vm.findClass own = some m.cls) (hlink : (Cond.methodLink own index y).before args s = true) (hstat : (Cond.static y).before args s = true) (hinit : (Cond.initialized y.cls).before args s = true)
    (hcode : (Cond.code y bytes maxL ret).before args s = true) (hy : y.cls ≠ "java/lang/invoke/MethodHandle" ∧ y.cls ≠ "java/lang/invoke/VarHandle")
    {W9 : Nat} {Pre : Pt → Array Value → Prop} {Post : Pt → Array Value → Option Value → Pt → Prop} {PostX : Pt → Array Value → Addr → Pt → Prop} (hK : vx_Back l R p e below s args y 3 W9 Pre Post PostX)
    {g : JFrame} (hg : g.method = m) (hsize : g.locals.size = c.maxLocals) {argsL rest : List Value} (hlen : ∀ sig, parseMethodDescriptor y.desc = some sig → argsL.length = sig.parameters.length)
    (hstack : g.stack = argsL.reverse ++ rest) (hW : 2 * g.monitorRoom + (rest.map fun v => v.category).sum ≤ W9) (hdg : decode c.code g.pc = .ok (.invokestatic index, 3))
    (hpre : ∀ vm₁, s.WarmedH vm₁ → Pre ⟨T.setVm vm₁, locs, cells, slots⟩ argsL.toArray) :
    (∃ (v : Option Value) (vm₁ : Vm) (B : Pt), s.WarmedH vm₁ ∧ Stand p l e R s m args below meth c B.U B.locs B.cells B.slots ∧ Post ⟨T.setVm vm₁, locs, cells, slots⟩ argsL.toArray v B ∧
      ∀ target, Steps p.tables e below (B.U.setTop { g with pc := g.pc + 3, stack := v.toList ++ rest }) target → Steps p.tables e below (T.setTop g) target) ∨
    (∃ (q : Addr) (vm₁ : Vm) (B : Pt), s.WarmedH vm₁ ∧ Stand p l e R s m args below meth c B.U B.locs B.cells B.slots ∧ PostX ⟨T.setVm vm₁, locs, cells, slots⟩ argsL.toArray q B ∧
      Steps p.tables e below (T.setTop g) ((B.U.setTop { g with stack := rest }).pushFrame (.throwing q))) := by
  obtain ⟨mk, hnamed⟩ := Cond.code_named hcode
  obtain ⟨methM, cM, hmethM, -, -, -, -, -, -, hsigM⟩ := Cond.code_spec hnamed hcode
  have hstatic : methM.isStatic = true := Cond.static_spec hnamed hmethM hstat
  obtain ⟨kP, hkP, -⟩ := className_of_methodNamed hnamed
  have hinitP : kP.init = .initialized := Cond.initialized_spec (findClass_of_methodNamed hnamed) hkP hinit
  obtain ⟨vm₁, X₁, hstep₁⟩ := X.invokestatic hexec hown hlink hnamed hmethM hstatic hkP hinitP hy (g := g) hg (argsL := argsL) (rest := rest) (hlen _ hsigM) hstack hdg
  rcases hK m meth c ⟨T.setVm vm₁, locs, cells, slots⟩ { g with stack := rest } (.invokestatic index) mk argsL.toArray X₁ hg hsize hdg hW (X₁.named hnamed) (hpre vm₁ X₁.warmed) with ⟨v, B, X', hpost, hsteps⟩ | ⟨q, B, X', hpost, hsteps⟩
  · exact Or.inl ⟨v, vm₁, B, X₁.warmed, X', hpost, fun target h => hstep₁ _ fun acts => by rw [doInvoke_state]; exact hsteps.trans h⟩
  · exact Or.inr ⟨q, vm₁, B, X₁.warmed, X', hpost, hstep₁ _ fun acts => by rw [doInvoke_state]; exact hsteps⟩
end Calls
theorem vx_cls {s : State} {T : State} {vm₁ : Vm} {E : String} {k : ClassId} (hW : s.WarmedH vm₁) (h : (T.setVm vm₁).vm.findClass E = some k) : s.vm.findClass E = some k := by
  have h1 : vm₁.findClass E = some k := h
  rw [hW.alike.findClass] at h1
  exact h1
/-- the method's frame g, with q thrown over it -/
def vx_W (p : Program) (l : Launch) (e : Env) (R : Room) (s : State) (m : MethodId) (args : Array Value) (below : List Frame) (meth : Method) (c : Code) (H : Heap) (locs : List Loc) (cells slots : Nat) (Q : State → Prop) (g : JFrame) (q : Addr) : Prop :=
  ∀ T : State, T.heap = H → Stand p l e R s m args below meth c T locs cells slots → ∃ t, Steps p.tables e below ((T.setTop g).pushFrame (.throwing q)) t ∧ Q t
def vx_Run (p : Program) (l : Launch) (e : Env) (R : Room) (s : State) (m : MethodId) (args : Array Value) (below : List Frame) (meth : Method) (c : Code) (H : Heap) (locs : List Loc) (cells slots mc ms : Nat) (g : JFrame) (rest : List Value) (Qa : State → Outcome → State → Prop) (XC : String → State → State → Prop) (free : Addr → Prop) : Prop :=
  ∀ T : State, T.heap = H → Stand p l e R s m args below meth c T locs cells slots →
    (∃ (v : Option Value) (st₀ t T' : State) (L : List Loc), st₀.heap = H ∧ Stand p l e R s m args below meth c T' (locs ++ L) (cells + mc) (slots + ms) ∧ (∀ q ∈ L, free q.base) ∧ T'.heap = t.heap ∧ T'.vm = t.vm ∧ Qa st₀ (.returned v) t ∧
      Goes p e below T g T' { g with pc := g.pc + 3, stack := v.toList ++ rest }) ∨
    (∃ (q : Addr) (st₀ t T' : State) (L : List Loc) (E : String) (ce : Cell), st₀.heap = H ∧ Stand p l e R s m args below meth c T' (locs ++ L) (cells + mc) (slots + ms) ∧ (∀ z ∈ L, free z.base) ∧ T'.heap = t.heap ∧ T'.vm = t.vm ∧ XC E st₀ t ∧ t.heap[q]? = some ce ∧ ce.vm = .none ∧ s.vm.findClass E = some ce.cls ∧
      Steps p.tables e below (T.setTop g) ((T'.setTop { g with stack := rest }).pushFrame (.throwing q)))
def vx_X {S : Type} (px : S → Prop) (B : String → S → State → Prop) (A : Nat → Prop) : String → State → State → Prop := fun E st t => ∃ u : S, px u ∧ B E u t ∧ va_F A st t
section Runs
variable {p : Program} {l : Launch} {e : Env} {R : Room} {s : State} {m : MethodId} {args : Array Value} {below : List Frame} {meth : Method} {c : Code} {H : Heap} {locs : List Loc} {cells slots : Nat}
variable {y : MethodName} {bytes cc : ByteArray} {maxL nL mc ms n index : Nat} {ret : Option FieldType} {ws : List Cond} {rm : Room} {Pc : Array Value → State → Prop} {Qc : Array Value → State → Outcome → State → Prop} {XC : String → State → State → Prop} {free : Addr → Prop} {Ts : List Cond} {own C : String} {b : Addr} {As rest : List Value} {g : JFrame}
theorem vx_callBack (cb : CallB R s args own index y bytes maxL ret ws rm mc ms n) (hM : vx_Met l y ws rm Pc Qc XC mc ms free) (hbl : FrameBlind Pc) : vx_Back l R p e below s args y 3 8 (PreOf R mc ms Pc) (PostOf Qc mc ms free) (vx_Post XC mc ms free) := by
  obtain ⟨hrc, hrs, hfr, hlo, hws, hcw, -, hini, -⟩ := cb
  exact vx_back (bytes := bytes) (maxL := maxL) (ret := ret) hM hbl hrc hrs hfr hlo hws hcw (fun a' U hW => word_at hW (Or.inl (by first | rfl | simp [Cond.onTables, Cond.keeps, Cond.steady])) hini)
theorem vx_runV (S : CallFix p m c cc nL s args Ts own) (hM : vx_Met l y ws rm Pc Qc XC mc ms free) (cw : CallW R s args own C index y bytes maxL ret ws rm mc ms n) (hp : PreV s H C b Pc As)
    (hg : g.method = m) (hn : As.length = n) (hsize : g.locals.size = nL) (hstack : g.stack = As.reverse ++ .ref b :: rest) (hW : 2 * g.monitorRoom + (rest.map fun v => v.category).sum ≤ 8) (hdg : decode cc g.pc = .ok (.invokevirtual index, 3)) (hf : cells + mc ≤ R.cells ∧ slots + ms ≤ R.slots) :
    vx_Run p l e R s m args below meth c H locs cells slots mc ms g rest (Qc (Value.ref b :: As).toArray) XC free := by
  have hK : vx_Back l R p e below s args y 3 8 (PreOf R mc ms Pc) (PostOf Qc mc ms free) (vx_Post XC mc ms free) := vx_callBack cw.1 hM hp.1
  obtain ⟨⟨-, -, -, -, -, -, hcode, -, hy, hlen, hl⟩, hin, hse⟩ := cw
  obtain ⟨hx, hb, hml, ho, -⟩ := S
  obtain ⟨-, ⟨cellB, hcB, hoB, hclB⟩, hPc⟩ := hp
  intro T hT X
  rcases vx_callV X hx (C := C) (bytes := bytes) (maxL := maxL) (ret := ret) ho hl hin hse hcode hy hK (by rw [hT]; exact hcB) hoB hclB hg (hsize.trans hml.symm) (argsL := As) (rest := rest) (fun sig h => hn.trans (hlen sig h)) hstack hW (by rw [hb]; exact hdg)
    (fun vm₁ hW₁ => ⟨hf.1, hf.2, hPc (T.setVm vm₁) hT hW₁⟩) with ⟨v, vm₁, ⟨U', l2, c2, s2⟩, hW₁, X', ⟨g', mk, t, L, e1, e2, hq, h1, hL, h2, h3⟩, st⟩ | ⟨q, vm₁, ⟨U', l2, c2, s2⟩, hW₁, X', ⟨g', mk, t, L, E, ce, e1, e2, hq, hce, hcv, hcl, h1, hL, h2, h3⟩, st⟩
  · dsimp only [Pt.U, Pt.locs, Pt.cells, Pt.slots] at X' e1 e2 h1 h2 h3 st
    subst h1; subst h2; subst h3
    exact Or.inl ⟨v, (T.setVm vm₁).calling g' mk (Value.ref b :: As).toArray, t, U', L, hT, X', hL, e1, e2, hq, st⟩
  · dsimp only [Pt.U, Pt.locs, Pt.cells, Pt.slots] at X' e1 e2 h1 h2 h3 st hcl
    subst h1; subst h2; subst h3
    exact Or.inr ⟨q, (T.setVm vm₁).calling g' mk (Value.ref b :: As).toArray, t, U', L, E, ce, hT, X', hL, e1, e2, hq, hce, hcv, vx_cls hW₁ hcl, st⟩
theorem vx_runS (S : CallFix p m c cc nL s args Ts own) (hM : vx_Met l y ws rm Pc Qc XC mc ms free) (cw : CallB R s args own index y bytes maxL ret ws rm mc ms n ∧ (Cond.static y).before args s = true) (hp : PreS s H Pc As)
    (hg : g.method = m) (hn : As.length = n) (hsize : g.locals.size = nL) (hstack : g.stack = As.reverse ++ rest) (hW : 2 * g.monitorRoom + (rest.map fun v => v.category).sum ≤ 8) (hdg : decode cc g.pc = .ok (.invokestatic index, 3)) (hf : cells + mc ≤ R.cells ∧ slots + ms ≤ R.slots) :
    vx_Run p l e R s m args below meth c H locs cells slots mc ms g rest (Qc As.toArray) XC free := by
  have hK : vx_Back l R p e below s args y 3 8 (PreOf R mc ms Pc) (PostOf Qc mc ms free) (vx_Post XC mc ms free) := vx_callBack cw.1 hM hp.1
  obtain ⟨⟨-, -, -, -, -, -, hcode, hini, hy, hlen, hl⟩, hstt⟩ := cw
  obtain ⟨hx, hb, hml, ho, -⟩ := S
  intro T hT X
  rcases vx_callS X hx (bytes := bytes) (maxL := maxL) (ret := ret) ho hl hstt hini hcode hy hK hg (hsize.trans hml.symm) (argsL := As) (rest := rest) (fun sig h => hn.trans (hlen sig h)) hstack hW (by rw [hb]; exact hdg)
    (fun vm₁ hW₁ => ⟨hf.1, hf.2, hp.2 (T.setVm vm₁) hT hW₁⟩) with ⟨v, vm₁, ⟨U', l2, c2, s2⟩, hW₁, X', ⟨g', mk, t, L, e1, e2, hq, h1, hL, h2, h3⟩, st⟩ | ⟨q, vm₁, ⟨U', l2, c2, s2⟩, hW₁, X', ⟨g', mk, t, L, E, ce, e1, e2, hq, hce, hcv, hcl, h1, hL, h2, h3⟩, st⟩
  · dsimp only [Pt.U, Pt.locs, Pt.cells, Pt.slots] at X' e1 e2 h1 h2 h3 st
    subst h1; subst h2; subst h3
    exact Or.inl ⟨v, (T.setVm vm₁).calling g' mk As.toArray, t, U', L, hT, X', hL, e1, e2, hq, st⟩
  · dsimp only [Pt.U, Pt.locs, Pt.cells, Pt.slots] at X' e1 e2 h1 h2 h3 st hcl
    subst h1; subst h2; subst h3
    exact Or.inr ⟨q, (T.setVm vm₁).calling g' mk As.toArray, t, U', L, E, ce, hT, X', hL, e1, e2, hq, hce, hcv, vx_cls hW₁ hcl, st⟩
end Runs
section Rows
variable {p : Program} {l : Launch} {e : Env} {R : Room} {s : State} {m : MethodId} {args : Array Value} {below : List Frame} {meth : Method} {c : Code} {H : Heap} {locs : List Loc} {cells slots : Nat} {Q : State → Prop}
variable {mc ms : Nat} {free : Addr → Prop} {A0 A1 : Nat → Prop} {H0 : Heap} {a : Array Value} {pc : Nat} {ls : Array Slot} {st0 rest : List Value}
theorem vx_keep {st₀ t T' : State} {L : List Loc} (h0 : st₀.heap = H) (e1 : T'.heap = t.heap) (hS : va_S A0 H0 H locs) (hA : ∀ q, q < H.size → A1 q → A0 q) (hf : ∀ q, free q → A0 q) (hL : ∀ q ∈ L, free q.base) (hF : va_F A1 st₀ t) :
    H.size ≤ T'.heap.size ∧ (∀ q : Nat, q < H.size → ¬ A1 q → T'.heap[q]? = H[q]?) ∧ va_S A0 H0 T'.heap (locs ++ L) := by
  obtain ⟨hz, hk⟩ := hF
  rw [h0] at hz hk
  exact ⟨by rw [e1]; exact hz, fun q h1 h2 => by rw [e1]; exact hk q h1 h2,
    ⟨Nat.le_trans hS.1 (by rw [e1]; exact hz), fun q h1 h2 => by rw [e1, hk q (Nat.lt_of_lt_of_le h1 hS.1) (fun z => h2 (hA q (Nat.lt_of_lt_of_le h1 hS.1) z))]; exact hS.2.1 q h1 h2, fun q hq => by
      rcases List.mem_append.mp hq with h | h
      · exact hS.2.2 q h
      · exact hf _ (hL q h)⟩⟩
theorem vx_calli {S SX : Type} {post : Int32 → S → Prop} {px : SX → Prop} {B : S → State → Prop} {BX : String → SX → State → Prop} {AX : Nat → Prop} (hr : vx_Run p l e R s m args below meth c H locs cells slots mc ms (F0 m pc ls st0) rest (va_Qi post B A1 a) (vx_X px BX AX) free) (hS : va_S A0 H0 H locs) (hA : ∀ q, q < H.size → A1 q → A0 q) (hf : ∀ q, free q → A0 q) (hAX : ∀ q, q < H.size → AX q → A0 q)
    (kx : ∀ (E : String) (ce : Cell) (q9 : Addr) (u : SX) (t : State) (H1 : Heap) (locs1 : List Loc), t.heap = H1 → s.vm.Alike t.vm → px u → BX E u t → H.size ≤ H1.size → (∀ q : Nat, q < H.size → ¬ AX q → H1[q]? = H[q]?) → va_S A0 H0 H1 locs1 → H1[q9]? = some ce → ce.vm = .none → s.vm.findClass E = some ce.cls → vx_W p l e R s m args below meth c H1 locs1 (cells + mc) (slots + ms) Q (F0 m pc ls rest) q9)
    (kk : ∀ (r : Int32) (u : S) (t : State) (H1 : Heap) (locs1 : List Loc), t.heap = H1 → s.vm.Alike t.vm → post r u → B u t → H.size ≤ H1.size → (∀ q : Nat, q < H.size → ¬ A1 q → H1[q]? = H[q]?) → va_S A0 H0 H1 locs1 → W p l e R s m args below meth c H1 locs1 (cells + mc) (slots + ms) Q (F0 m (pc + 3) ls (.int r :: rest))) : W p l e R s m args below meth c H locs cells slots Q (F0 m pc ls st0) := by
  intro T hT X
  rcases hr T hT X with ⟨v, st₀, t, T', L, h0, X', hL, e1, e2, ⟨⟨r, u, hv, hp, hb⟩, hF⟩, st⟩ | ⟨q, st₀, t, T', L, E, ce, h0, X', hL, e1, e2, ⟨u, hp, hb, hF⟩, hce, hcv, hcl, st⟩
  · cases hv
    obtain ⟨k1, k2, k3⟩ := vx_keep h0 e1 hS hA hf hL hF
    obtain ⟨t2, a1, b1⟩ := kk r u t T'.heap (locs ++ L) e1.symm (by rw [← e2]; exact X'.warmed.alike) hp hb k1 k2 k3 T' rfl X'
    exact ⟨t2, st t2 a1, b1⟩
  · obtain ⟨k1, k2, k3⟩ := vx_keep h0 e1 hS hAX hf hL hF
    obtain ⟨t2, a1, b1⟩ := kx E ce q u t T'.heap (locs ++ L) e1.symm (by rw [← e2]; exact X'.warmed.alike) hp hb k1 k2 k3 (by rw [e1]; exact hce) hcv hcl T' rfl X'
    exact ⟨t2, st.trans a1, b1⟩
theorem vx_calll {S SX : Type} {post : Int64 → S → Prop} {px : SX → Prop} {B : S → State → Prop} {BX : String → SX → State → Prop} {AX : Nat → Prop} (hr : vx_Run p l e R s m args below meth c H locs cells slots mc ms (F0 m pc ls st0) rest (va_Ql post B A1 a) (vx_X px BX AX) free) (hS : va_S A0 H0 H locs) (hA : ∀ q, q < H.size → A1 q → A0 q) (hf : ∀ q, free q → A0 q) (hAX : ∀ q, q < H.size → AX q → A0 q)
    (kx : ∀ (E : String) (ce : Cell) (q9 : Addr) (u : SX) (t : State) (H1 : Heap) (locs1 : List Loc), t.heap = H1 → s.vm.Alike t.vm → px u → BX E u t → H.size ≤ H1.size → (∀ q : Nat, q < H.size → ¬ AX q → H1[q]? = H[q]?) → va_S A0 H0 H1 locs1 → H1[q9]? = some ce → ce.vm = .none → s.vm.findClass E = some ce.cls → vx_W p l e R s m args below meth c H1 locs1 (cells + mc) (slots + ms) Q (F0 m pc ls rest) q9)
    (kk : ∀ (r : Int64) (u : S) (t : State) (H1 : Heap) (locs1 : List Loc), t.heap = H1 → s.vm.Alike t.vm → post r u → B u t → H.size ≤ H1.size → (∀ q : Nat, q < H.size → ¬ A1 q → H1[q]? = H[q]?) → va_S A0 H0 H1 locs1 → W p l e R s m args below meth c H1 locs1 (cells + mc) (slots + ms) Q (F0 m (pc + 3) ls (.long r :: rest))) : W p l e R s m args below meth c H locs cells slots Q (F0 m pc ls st0) := by
  intro T hT X
  rcases hr T hT X with ⟨v, st₀, t, T', L, h0, X', hL, e1, e2, ⟨⟨r, u, hv, hp, hb⟩, hF⟩, st⟩ | ⟨q, st₀, t, T', L, E, ce, h0, X', hL, e1, e2, ⟨u, hp, hb, hF⟩, hce, hcv, hcl, st⟩
  · cases hv
    obtain ⟨k1, k2, k3⟩ := vx_keep h0 e1 hS hA hf hL hF
    obtain ⟨t2, a1, b1⟩ := kk r u t T'.heap (locs ++ L) e1.symm (by rw [← e2]; exact X'.warmed.alike) hp hb k1 k2 k3 T' rfl X'
    exact ⟨t2, st t2 a1, b1⟩
  · obtain ⟨k1, k2, k3⟩ := vx_keep h0 e1 hS hAX hf hL hF
    obtain ⟨t2, a1, b1⟩ := kx E ce q u t T'.heap (locs ++ L) e1.symm (by rw [← e2]; exact X'.warmed.alike) hp hb k1 k2 k3 (by rw [e1]; exact hce) hcv hcl T' rfl X'
    exact ⟨t2, st.trans a1, b1⟩
theorem vx_callf {S SX : Type} {post : UInt32 → S → Prop} {px : SX → Prop} {B : S → State → Prop} {BX : String → SX → State → Prop} {AX : Nat → Prop} (hr : vx_Run p l e R s m args below meth c H locs cells slots mc ms (F0 m pc ls st0) rest (va_Qf post B A1 a) (vx_X px BX AX) free) (hS : va_S A0 H0 H locs) (hA : ∀ q, q < H.size → A1 q → A0 q) (hf : ∀ q, free q → A0 q) (hAX : ∀ q, q < H.size → AX q → A0 q)
    (kx : ∀ (E : String) (ce : Cell) (q9 : Addr) (u : SX) (t : State) (H1 : Heap) (locs1 : List Loc), t.heap = H1 → s.vm.Alike t.vm → px u → BX E u t → H.size ≤ H1.size → (∀ q : Nat, q < H.size → ¬ AX q → H1[q]? = H[q]?) → va_S A0 H0 H1 locs1 → H1[q9]? = some ce → ce.vm = .none → s.vm.findClass E = some ce.cls → vx_W p l e R s m args below meth c H1 locs1 (cells + mc) (slots + ms) Q (F0 m pc ls rest) q9)
    (kk : ∀ (r : UInt32) (u : S) (t : State) (H1 : Heap) (locs1 : List Loc), t.heap = H1 → s.vm.Alike t.vm → post r u → B u t → H.size ≤ H1.size → (∀ q : Nat, q < H.size → ¬ A1 q → H1[q]? = H[q]?) → va_S A0 H0 H1 locs1 → W p l e R s m args below meth c H1 locs1 (cells + mc) (slots + ms) Q (F0 m (pc + 3) ls (.float r :: rest))) : W p l e R s m args below meth c H locs cells slots Q (F0 m pc ls st0) := by
  intro T hT X
  rcases hr T hT X with ⟨v, st₀, t, T', L, h0, X', hL, e1, e2, ⟨⟨r, u, hv, hp, hb⟩, hF⟩, st⟩ | ⟨q, st₀, t, T', L, E, ce, h0, X', hL, e1, e2, ⟨u, hp, hb, hF⟩, hce, hcv, hcl, st⟩
  · cases hv
    obtain ⟨k1, k2, k3⟩ := vx_keep h0 e1 hS hA hf hL hF
    obtain ⟨t2, a1, b1⟩ := kk r u t T'.heap (locs ++ L) e1.symm (by rw [← e2]; exact X'.warmed.alike) hp hb k1 k2 k3 T' rfl X'
    exact ⟨t2, st t2 a1, b1⟩
  · obtain ⟨k1, k2, k3⟩ := vx_keep h0 e1 hS hAX hf hL hF
    obtain ⟨t2, a1, b1⟩ := kx E ce q u t T'.heap (locs ++ L) e1.symm (by rw [← e2]; exact X'.warmed.alike) hp hb k1 k2 k3 (by rw [e1]; exact hce) hcv hcl T' rfl X'
    exact ⟨t2, st.trans a1, b1⟩
theorem vx_calld {S SX : Type} {post : UInt64 → S → Prop} {px : SX → Prop} {B : S → State → Prop} {BX : String → SX → State → Prop} {AX : Nat → Prop} (hr : vx_Run p l e R s m args below meth c H locs cells slots mc ms (F0 m pc ls st0) rest (va_Qd post B A1 a) (vx_X px BX AX) free) (hS : va_S A0 H0 H locs) (hA : ∀ q, q < H.size → A1 q → A0 q) (hf : ∀ q, free q → A0 q) (hAX : ∀ q, q < H.size → AX q → A0 q)
    (kx : ∀ (E : String) (ce : Cell) (q9 : Addr) (u : SX) (t : State) (H1 : Heap) (locs1 : List Loc), t.heap = H1 → s.vm.Alike t.vm → px u → BX E u t → H.size ≤ H1.size → (∀ q : Nat, q < H.size → ¬ AX q → H1[q]? = H[q]?) → va_S A0 H0 H1 locs1 → H1[q9]? = some ce → ce.vm = .none → s.vm.findClass E = some ce.cls → vx_W p l e R s m args below meth c H1 locs1 (cells + mc) (slots + ms) Q (F0 m pc ls rest) q9)
    (kk : ∀ (r : UInt64) (u : S) (t : State) (H1 : Heap) (locs1 : List Loc), t.heap = H1 → s.vm.Alike t.vm → post r u → B u t → H.size ≤ H1.size → (∀ q : Nat, q < H.size → ¬ A1 q → H1[q]? = H[q]?) → va_S A0 H0 H1 locs1 → W p l e R s m args below meth c H1 locs1 (cells + mc) (slots + ms) Q (F0 m (pc + 3) ls (.double r :: rest))) : W p l e R s m args below meth c H locs cells slots Q (F0 m pc ls st0) := by
  intro T hT X
  rcases hr T hT X with ⟨v, st₀, t, T', L, h0, X', hL, e1, e2, ⟨⟨r, u, hv, hp, hb⟩, hF⟩, st⟩ | ⟨q, st₀, t, T', L, E, ce, h0, X', hL, e1, e2, ⟨u, hp, hb, hF⟩, hce, hcv, hcl, st⟩
  · cases hv
    obtain ⟨k1, k2, k3⟩ := vx_keep h0 e1 hS hA hf hL hF
    obtain ⟨t2, a1, b1⟩ := kk r u t T'.heap (locs ++ L) e1.symm (by rw [← e2]; exact X'.warmed.alike) hp hb k1 k2 k3 T' rfl X'
    exact ⟨t2, st t2 a1, b1⟩
  · obtain ⟨k1, k2, k3⟩ := vx_keep h0 e1 hS hAX hf hL hF
    obtain ⟨t2, a1, b1⟩ := kx E ce q u t T'.heap (locs ++ L) e1.symm (by rw [← e2]; exact X'.warmed.alike) hp hb k1 k2 k3 (by rw [e1]; exact hce) hcv hcl T' rfl X'
    exact ⟨t2, st.trans a1, b1⟩
theorem vx_callv {S SX : Type} {post : S → Prop} {px : SX → Prop} {B : S → State → Prop} {BX : String → SX → State → Prop} {AX : Nat → Prop} (hr : vx_Run p l e R s m args below meth c H locs cells slots mc ms (F0 m pc ls st0) rest (va_Qv post B A1 a) (vx_X px BX AX) free) (hS : va_S A0 H0 H locs) (hA : ∀ q, q < H.size → A1 q → A0 q) (hf : ∀ q, free q → A0 q) (hAX : ∀ q, q < H.size → AX q → A0 q)
    (kx : ∀ (E : String) (ce : Cell) (q9 : Addr) (u : SX) (t : State) (H1 : Heap) (locs1 : List Loc), t.heap = H1 → s.vm.Alike t.vm → px u → BX E u t → H.size ≤ H1.size → (∀ q : Nat, q < H.size → ¬ AX q → H1[q]? = H[q]?) → va_S A0 H0 H1 locs1 → H1[q9]? = some ce → ce.vm = .none → s.vm.findClass E = some ce.cls → vx_W p l e R s m args below meth c H1 locs1 (cells + mc) (slots + ms) Q (F0 m pc ls rest) q9)
    (kk : ∀ (u : S) (t : State) (H1 : Heap) (locs1 : List Loc), t.heap = H1 → s.vm.Alike t.vm → post u → B u t → H.size ≤ H1.size → (∀ q : Nat, q < H.size → ¬ A1 q → H1[q]? = H[q]?) → va_S A0 H0 H1 locs1 → W p l e R s m args below meth c H1 locs1 (cells + mc) (slots + ms) Q (F0 m (pc + 3) ls (rest))) : W p l e R s m args below meth c H locs cells slots Q (F0 m pc ls st0) := by
  intro T hT X
  rcases hr T hT X with ⟨v, st₀, t, T', L, h0, X', hL, e1, e2, ⟨⟨u, hv, hp, hb⟩, hF⟩, st⟩ | ⟨q, st₀, t, T', L, E, ce, h0, X', hL, e1, e2, ⟨u, hp, hb, hF⟩, hce, hcv, hcl, st⟩
  · cases hv
    obtain ⟨k1, k2, k3⟩ := vx_keep h0 e1 hS hA hf hL hF
    obtain ⟨t2, a1, b1⟩ := kk u t T'.heap (locs ++ L) e1.symm (by rw [← e2]; exact X'.warmed.alike) hp hb k1 k2 k3 T' rfl X'
    exact ⟨t2, st t2 a1, b1⟩
  · obtain ⟨k1, k2, k3⟩ := vx_keep h0 e1 hS hAX hf hL hF
    obtain ⟨t2, a1, b1⟩ := kx E ce q u t T'.heap (locs ++ L) e1.symm (by rw [← e2]; exact X'.warmed.alike) hp hb k1 k2 k3 (by rw [e1]; exact hce) hcv hcl T' rfl X'
    exact ⟨t2, st.trans a1, b1⟩
/-- caught by the row x of this method's table; the rows ahead don't take it -/
theorem vx_catch {own name : String} {E : String} {ce : Cell} {q : Addr} (hown : s.vm.findClass own = some m.cls) (pre : List ExceptionTableEntry) (x : ExceptionTableEntry) (suf : List ExceptionTableEntry) (hsplit : c.exceptionTable.toList = pre ++ x :: suf)
    (hpass : ∀ z ∈ pre, covers z pc = false ∨ (z.catchType ≠ 0 ∧ ∃ nm : String, (Cond.classLink own z.catchType nm).before args s = true ∧ va_Nc E nm s)) (hx : covers x pc = true) (h0 : x.catchType ≠ 0)
    (hlink : (Cond.classLink own x.catchType name).before args s = true) (hcast : (Cond.castable E name).before args s = true) (hcell : H[q]? = some ce) (hv : ce.vm = .none) (hcl : s.vm.findClass E = some ce.cls)
    (kk : W p l e R s m args below meth c H locs cells slots Q (F0 m x.handlerPc ls [.ref q])) : vx_W p l e R s m args below meth c H locs cells slots Q (F0 m pc ls rest) q := by
  intro T hT X
  have hpl : e.platform.magicAccessors = ({} : Platform).magicAccessors := by rw [X.admits.platform]
  obtain ⟨c3, c4, hc3, hc4, hasg⟩ := Cond.castable_spec hcast
  cases Option.some.inj (hc3.symm.trans hcl)
  obtain ⟨c5, hc5, hcl5⟩ := Cond.classLink_spec hown hlink e.platform hpl
  cases Option.some.inj (hc4.symm.trans hc5)
  obtain ⟨vm', X', st⟩ := X.thenCaughtThrough q (g := F0 m pc ls rest) rfl (Steps.refl _) (by rw [hT]; exact hcell) (by rw [hv]; rfl) (by obtain ⟨k9, h9, -⟩ := Vm.findClass_spec hcl; exact ⟨k9, h9⟩) pre x suf hsplit
    (fun z hz => by
      rcases hpass z hz with h | ⟨hz0, nm, hl1, hn1⟩
      · exact Or.inl h
      · obtain ⟨c6, hc6, hcl6⟩ := Cond.classLink_spec hown hl1 e.platform hpl
        obtain ⟨a8, b8, h1, h2, h3⟩ := hn1
        cases Option.some.inj (h1.symm.trans hcl)
        cases Option.some.inj (h2.symm.trans hc6)
        exact Or.inr ⟨hz0, _, hcl6, h3⟩) hx (Or.inr ⟨h0, c4, hcl5, hasg⟩)
  obtain ⟨t, a1, b1⟩ := kk (T.setVm vm') hT X'
  exact ⟨t, st.trans a1, b1⟩
end Rows
section Ends
variable {p : Program} {l : Launch} {e : Env} {R : Room} {s : State} {m : MethodId} {args : Array Value} {below : List Frame} {meth : Method} {c : Code} {H : Heap} {locs : List Loc} {cells slots : Nat} {Q : State → Prop}
variable {mc ms : Nat} {free : Addr → Prop} {A0 A1 : Nat → Prop} {H0 : Heap} {a : Array Value} {ls : Array Slot} {st0 rest : List Value}
variable {Qc : Array Value → State → Outcome → State → Prop} {XC : String → State → State → Prop}
/-- what a body that may throw owes at its end -/
def vx_MQ (below : List Frame) (Qc : Array Value → State → Outcome → State → Prop) (XC : String → State → State → Prop) (a : Array Value) (s : State) (mc ms : Nat) (free : Addr → Prop) : State → Prop := fun t =>
  ∃ o, t.status = .running ∧ Ended t below o ∧ vx_Q Qc XC mc ms free a s o t
theorem vx_ret {g : JFrame} {mc ms : Nat} (k : W p l e R s m args below meth c H locs cells slots (MQ below Qc args s mc ms free) g) : W p l e R s m args below meth c H locs cells slots (vx_MQ below Qc XC args s mc ms free) g := by
  intro T hT X
  obtain ⟨t, a1, o, b1, b2, b3, b4⟩ := k T hT X
  exact ⟨t, a1, o, b1, b2, Or.inl ⟨b3, b4⟩⟩
/-- not caught here: it goes on to the caller -/
theorem vx_widen {g : JFrame} {q : Addr} {k n : Nat} (h1 : cells ≤ k) (h2 : slots ≤ n) (kk : vx_W p l e R s m args below meth c H locs k n Q g q) : vx_W p l e R s m args below meth c H locs cells slots Q g q := fun T hT X => kk T hT (stand_widen X h1 h2)
theorem vx_out {pc : Nat} {E : String} {ce : Cell} {q : Addr} {mc ms : Nat} (hout : ∀ x ∈ c.exceptionTable.toList, covers x pc = false) (hlocks : meth.locks = false) (hcell : H[q]? = some ce) (hv : ce.vm = .none) (hcl : s.vm.findClass E = some ce.cls)
    (hx : ∀ t : State, t.heap = H → s.vm.Alike t.vm → XC E s t) (hf : ∀ z ∈ locs, free z.base) (hc : cells ≤ mc) (hs : slots ≤ ms) :
    vx_W p l e R s m args below meth c H locs cells slots (vx_MQ below Qc XC args s mc ms free) (F0 m pc ls rest) q := by
  intro T hT X
  obtain ⟨st1, hrun, hend, hW, hsm⟩ := X.leaveThrown q (g := F0 m pc ls rest) rfl rfl rfl hout hlocks
  have hcell9 : (T.setFrames (.throwing q :: below)).heap[q]? = some ce := by
    show T.heap[q]? = some ce
    rw [hT]; exact hcell
  exact ⟨_, st1, .threw q, hrun, hend, Or.inr ⟨q, rfl, E, ce, locs, hx _ hT hW.alike, hcell9, hv, hcl, hW, hsm.mono hc hs, hf⟩⟩
theorem vx_frame {U : State} {k n : Nat} (h : s.sameButNew ({ U with vm := s.vm } : State) locs k n) : s.heap.size ≤ U.heap.size ∧ ∀ q : Nat, q < s.heap.size → (∀ z ∈ locs, z.base ≠ q) → U.heap[q]? = s.heap[q]? := by
  obtain ⟨-, h2, -, -, -, h6⟩ := h
  refine ⟨h2, fun q hq hz => ?_⟩
  obtain ⟨c9, e1, e2, e3, e4⟩ := h6 q _ (Array.getElem?_eq_getElem hq)
  have hs : c9.slots = (s.heap[q]).slots := Array.ext_getElem? fun i => e4 i fun hm => hz _ hm rfl
  have h9 : c9 = s.heap[q] := by
    rw [hs] at e2
    exact e2
  have e5 : U.heap[q]? = some c9 := e1
  rw [e5, h9, Array.getElem?_eq_getElem hq]
/-- the words of a throw but the four that speak of the heap -/
def vx_no (w : Cond) : Bool := decide (w ≠ .isRef (.static Bundle.tN "UNASSIGNED_STACK" Bundle.steD)) && decide (w ≠ .isRef (.static Bundle.tN "SUPPRESSED_SENTINEL" Bundle.listD)) && decide (w ≠ .laysStatic Bundle.tN "UNASSIGNED_STACK" Bundle.steD) && decide (w ≠ .laysStatic Bundle.tN "SUPPRESSED_SENTINEL" Bundle.listD)
def vx_at0 (own : String) (ic : Nat) (X : String) (names : List String) : List Cond := (Bundle.ownAtoms0 own ic X names).filter vx_no
def vx_atS (own : String) (ic : Nat) (X : String) (names : List String) : List Cond := (Bundle.ownAtoms own ic X names).filter vx_no
/-- a word that the tables alone decide, or a good one -/
def vx_ot (w : Cond) : Bool := w.onTables || goodWord w
theorem vx_ot_at {args a' : Array Value} {s U : State} {w : Cond} (hW : s.WarmedH U.vm) (hvm : s.vm = U.vm) (hg : vx_ot w = true) (h : w.before args s = true) : w.before a' U = true := by
  simp only [vx_ot, Bool.or_eq_true] at hg
  rcases hg with hg | hg
  · exact va_tabs hg hvm h
  · exact word_at hW (good_of_word hg) h
/-- a list's words: the good ones out of the method's own list, the others by premises of their own -/
theorem vx_hat {args : Array Value} {s : State} {L B : List Cond} (h1 : ∀ w ∈ L.filter goodWord, w.before args s = true) (h2 : ∀ w ∈ L.filter (fun w => !goodWord w), w ∈ B) (h3 : ∀ w ∈ B, w.before args s = true) : ∀ w ∈ L, w.before args s = true := by
  intro w hw
  by_cases g : goodWord w = true
  · exact h1 w (List.mem_filter.mpr ⟨hw, g⟩)
  · refine h3 w (h2 w (List.mem_filter.mpr ⟨hw, ?_⟩))
    show (!goodWord w) = true
    cases hgw : goodWord w
    · rfl
    · exact absurd hgw g
theorem vx_c {args : Array Value} {s : State} {w : Cond} {B : List Cond} (h : w.before args s = true) (t : ∀ w ∈ B, w.before args s = true) : ∀ w' ∈ w :: B, w'.before args s = true := fun w' h' => (List.mem_cons.mp h').elim (fun e => by rw [e]; exact h) (t w')
theorem vx_n {args : Array Value} {s : State} : ∀ w ∈ ([] : List Cond), w.before args s = true := fun _ h => nomatch h
theorem vx_own {args : Array Value} {s : State} {L : List Cond} (h1 : ∀ w ∈ L.filter vx_no, w.before args s = true)
    (hU : (Cond.isRef (.static Bundle.tN "UNASSIGNED_STACK" Bundle.steD)).before args s = true) (hN : (Cond.isRef (.static Bundle.tN "SUPPRESSED_SENTINEL" Bundle.listD)).before args s = true)
    (lU : (Cond.laysStatic Bundle.tN "UNASSIGNED_STACK" Bundle.steD).before args s = true) (lN : (Cond.laysStatic Bundle.tN "SUPPRESSED_SENTINEL" Bundle.listD).before args s = true) : ∀ w ∈ L, w.before args s = true := by
  intro w hw
  by_cases e1 : w = .isRef (.static Bundle.tN "UNASSIGNED_STACK" Bundle.steD)
  · rw [e1]; exact hU
  · by_cases e2 : w = .isRef (.static Bundle.tN "SUPPRESSED_SENTINEL" Bundle.listD)
    · rw [e2]; exact hN
    · by_cases e3 : w = .laysStatic Bundle.tN "UNASSIGNED_STACK" Bundle.steD
      · rw [e3]; exact lU
      · by_cases e4 : w = .laysStatic Bundle.tN "SUPPRESSED_SENTINEL" Bundle.listD
        · rw [e4]; exact lN
        · exact h1 w (List.mem_filter.mpr ⟨hw, by unfold vx_no; rw [decide_eq_true e1, decide_eq_true e2, decide_eq_true e3, decide_eq_true e4]; rfl⟩)
/-- where a static field lies, its class's statics cell in H -/
def vx_L (C n d : String) (A : Nat → Prop) (U : State) (H : Heap) : Prop := ∃ (c : ClassId) (k : Class) (i : Nat) (f : Field) (a : Nat) (cell : Cell), U.vm.findClass C = some c ∧ U.fieldFound? C n d = some (c, k, i, f) ∧ f.isStatic = true ∧ k.statics = some a ∧ H[a]? = some cell ∧ cell.vm.isStatics = true ∧ cell.cls = c ∧ f.slot < cell.slots.size ∧ k.staticTypes[f.slot]? = some f.type ∧ ¬ A a
theorem vx_L.moved {C n d : String} {A : Nat → Prop} {u U : State} {H : Heap} (hvm : u.vm.Alike U.vm) (h : vx_L C n d A u H) : vx_L C n d A U H := by
  obtain ⟨c, k, i, f, a, cell, h1, h2, h3, h4, h5, h6, h7, h8, h9, h10⟩ := h
  obtain ⟨k', hi', he⟩ := State.fieldFound?_setVm hvm h2
  exact ⟨c, k', i, f, a, cell, by rw [hvm.findClass]; exact h1, hi', h3, by rw [he]; exact h4, h5, h6, h7, h8, by rw [he]; exact h9, h10⟩
theorem vx_L.kept {C n d : String} {A : Nat → Prop} {U : State} {H H1 : Heap} (h : vx_L C n d A U H) (hq : ∀ a : Nat, a < H.size → ¬ A a → H1[a]? = H[a]?) : vx_L C n d A U H1 := by
  obtain ⟨c, k, i, f, a, cell, h1, h2, h3, h4, h5, h6, h7, h8, h9, h10⟩ := h
  exact ⟨c, k, i, f, a, cell, h1, h2, h3, h4, by rw [hq a (Array.getElem?_eq_some_iff.mp h5).1 h10]; exact h5, h6, h7, h8, h9, h10⟩
theorem vx_L.narrow {C n d : String} {A B : Nat → Prop} {U : State} {H : Heap} (h : vx_L C n d A U H) (hAB : ∀ q, B q → A q) : vx_L C n d B U H := by
  obtain ⟨c, k, i, f, a, cell, h1, h2, h3, h4, h5, h6, h7, h8, h9, h10⟩ := h
  exact ⟨c, k, i, f, a, cell, h1, h2, h3, h4, h5, h6, h7, h8, h9, fun z => h10 (hAB _ z)⟩
theorem vx_L.word {C n d : String} {A : Nat → Prop} {s : State} {args : Array Value} (h : vx_L C n d A s s.heap) : (Cond.laysStatic C n d).before args s = true := by
  obtain ⟨c, k, i, f, a, cell, h1, h2, h3, h4, h5, h6, h7, h8, h9, -⟩ := h
  show (Cond.laysStatic C n d).holds args s none s [] = true
  exact Cond.laysStatic_of h1 h2 h3 h4 h5 h6 h7 h8 h9
/-- .. and what it holds: null or some reference -/
def vx_Zq (C n d : String) (A : Nat → Prop) (U : State) (H : Heap) : Prop := va_Zq C n d A U H ∧ vx_L C n d A U H
theorem vx_Zq.moved {C n d : String} {A : Nat → Prop} {u U : State} {H : Heap} (hvm : u.vm.Alike U.vm) (h : vx_Zq C n d A u H) : vx_Zq C n d A U H := ⟨va_Zq.moved hvm h.1, vx_L.moved hvm h.2⟩
theorem vx_Zq.kept {C n d : String} {A : Nat → Prop} {U : State} {H H1 : Heap} (h : vx_Zq C n d A U H) (hq : ∀ a : Nat, a < H.size → ¬ A a → H1[a]? = H[a]?) : vx_Zq C n d A U H1 := ⟨va_Zq.kept h.1 hq, vx_L.kept h.2 hq⟩
theorem vx_Zq.narrow {C n d : String} {A B : Nat → Prop} {U : State} {H : Heap} (h : vx_Zq C n d A U H) (hAB : ∀ q, B q → A q) : vx_Zq C n d B U H := ⟨va_Zq.narrow h.1 hAB, vx_L.narrow h.2 hAB⟩
theorem vx_Zqof {args : Array Value} {s : State} {C n d : String} {A : Nat → Prop} (hl : (Cond.laysStatic C n d).before args s = true) (hini : (Cond.initialized C).before args s = true) (h : (Cond.isRef (.static C n d)).before args s = true) (hA : ∀ a : Nat, a < s.heap.size → ¬ A a) : vx_Zq C n d A s s.heap := by
  refine ⟨va_Zqof hl hini h hA, ?_⟩
  obtain ⟨c, k, i, f, a, cell, h1, h2, h3, h4, h5, h6, h7, h8, h9⟩ := Cond.laysStatic_spec hl
  exact ⟨c, k, i, f, a, cell, h1, h2, h3, h4, h5, h6, h7, h8, h9, hA a (Array.getElem?_eq_some_iff.mp h5).1⟩
theorem vx_isRef {C n d : String} {v : Value} {A : Nat → Prop} {s : State} {args : Array Value} (h : va_Z C n d v A s s.heap) (hv : v.isRef = true) : (Cond.isRef (.static C n d)).before args s = true := by
  obtain ⟨cf, kf, fi, f, a, cell, h1, h2, h3, h4, h5, h6, h7, -⟩ := h
  have he : (Term.static C n d).eval args s none [] s = some v := by
    simp [Term.eval, State.fieldNamed?, h1, h2, h4, h5, h6, h7]
  simp only [Cond.before, Cond.holds, Cond.value, he]
  cases v <;> simp_all [Value.isRef]
theorem vx_isRefq {C n d : String} {A : Nat → Prop} {s : State} {args : Array Value} (h : va_Zq C n d A s s.heap) : (Cond.isRef (.static C n d)).before args s = true := by
  rcases h with h | ⟨t, h⟩
  · exact vx_isRef h rfl
  · exact vx_isRef h rfl
/-- the same frame, seen from here: as if the method were called anew in this heap -/
theorem vx_rebase {T : State} (X : Stand p l e R s m args below meth c T locs cells slots) {R' : Room} (hf : R'.frames ≤ R.frames) (hl : R'.locals ≤ R.locals) (hc : cells + R'.cells ≤ R.cells) (hs : slots + R'.slots ≤ R.slots) :
    Stand p l e R' ((T.setVm s.vm).setFrames (.invoking m args :: below)) m args below meth c T [] 0 0 := by
  have htop : (T.setVm s.vm).topJava?.isSome := X.here.top
  have hF : ((T.setVm s.vm).setFrames (.invoking m args :: below)).frames = .invoking m args :: below := State.frames_setFrames _ (State.cur_lt_of_top htop)
  obtain ⟨g₀, hg0⟩ := Option.isSome_iff_exists.mp htop
  obtain ⟨r, hr⟩ := State.topJava?_eq_some.mp hg0
  have hl9 : e.platform.stackLimits (T.setVm s.vm).me = e.platform.stackLimits s.me := X.limits
  have hb9 : (T.setVm s.vm).me.stackBytes = s.me.stackBytes := X.bytes
  refine ⟨X.admits, X.cas, X.clock, hF, ?_, X.hears, X.method, X.code, X.here, X.tail, X.warmed, ?_, ?_, ?_⟩
  · have h := X.room
    have hU : ((T.setVm s.vm).setFrames (.invoking m args :: below)).localsInUse = s.localsInUse := by
      rw [State.localsInUse_invoking hF (meth := meth) (c := c) X.method X.code, State.localsInUse_invoking X.frames X.method X.code]
    simp only [State.hasRoom, Bool.and_eq_true, decide_eq_true_eq] at h ⊢
    obtain ⟨⟨⟨⟨h1, h2, h3, h4, h5, h6⟩, h7⟩, h8⟩, h9⟩ := h
    rw [X.frames, List.length_cons] at h2 h3
    have q1 := X.heapSize
    have q2 := X.used
    simp only [hF, hU, List.length_cons, State.stackLimits_setFrames, State.stackBytes_setFrames, hl9, hb9]
    refine ⟨⟨⟨⟨by omega, by omega, by omega, by omega, by omega, h6⟩, ?_⟩, ?_⟩, X.book⟩
    · show T.heap.size + R'.cells ≤ e.platform.maxCells
      omega
    · show T.slotsUsed + R'.slots ≤ e.platform.maxSlots
      omega
  · rw [State.stackLimits_setFrames]; rfl
  · rw [State.stackBytes_setFrames]; rfl
  · refine ⟨?_, Nat.le_refl _, Nat.le_refl _, ?_, ?_, fun a c9 h9 => ⟨c9, h9, rfl, rfl, fun _ _ => rfl⟩⟩
    · obtain ⟨t, ht, -⟩ := State.frames_cons hr
      show T.setVm s.vm = { ((T.setVm s.vm).setFrames (.invoking m args :: below)).setFrames (T.setVm s.vm).frames with heap := T.heap, slotsUsed := T.slotsUsed }
      rw [State.setFrames_setFrames, State.setFrames_self ht]
      rfl
    · show T.slotsUsed = T.slotsUsed + ((T.heap.toList.drop T.heap.size).map (·.slots.size)).sum
      rw [List.drop_eq_nil_of_le (Nat.le_of_eq Array.length_toList)]
      rfl
    · show ((T.heap.toList.drop T.heap.size).map (·.slots.size)).sum ≤ 0
      rw [List.drop_eq_nil_of_le (Nat.le_of_eq Array.length_toList)]
      exact Nat.le_refl _
/-- 'throw new E()': new; dup; invokespecial; athrow -/
theorem vx_throw0 {cc : ByteArray} {pc : Nat} (hexec : p.tables.exec = Jvm.exec) (hb : c.code = cc) (hl : l.stackTraces = false) {own cls : String} {names : List String} {ik ic mc ms : Nat} {A : Nat → Prop}
    (hown : s.vm.findClass own = some m.cls) (hcls : Bundle.fit cls = true) (hnames : ∀ n ∈ names, Bundle.fit n = true)
    (hk : (Cond.classLink own ik cls).before args s = true) (hini : (Cond.initialized cls).before args s = true) (hat : ∀ w ∈ vx_at0 own ic cls names, w.before args s = true)
    (hgood : ∀ w ∈ Cond.classLink own ik cls :: Cond.initialized cls :: vx_at0 own ic cls names, vx_ot w = true)
    (hU : vx_Zq Bundle.tN "UNASSIGNED_STACK" Bundle.steD A s s.heap) (hN : vx_Zq Bundle.tN "SUPPRESSED_SENTINEL" Bundle.listD A s s.heap) (hS : va_S A s.heap H locs) (hsize : ls.size = c.maxLocals)
    (d0 : decode cc pc = .ok (.new ik, 3)) (d3 : decode cc (pc + 3) = .ok (.dup, 1)) (d4 : decode cc (pc + 4) = .ok (.invokespecial ic, 3)) (d7 : decode cc (pc + 7) = .ok (.athrow, 1))
    (hout : ∀ x ∈ c.exceptionTable.toList, covers x (pc + 7) = false)
    (hRframes : names.length + 3 < R.frames) (hRlocals : (rest.map fun v => v.category).sum + (13 * (names.length + 1) + 42) ≤ R.locals) (hRcells : cells + 1 ≤ R.cells) (hRslots : slots + 6 ≤ R.slots) (hlocks : meth.locks = false)
    (hx : ∀ t : State, s.vm.Alike t.vm → t.heap.size = H.size + 1 → (∀ q : Nat, q < H.size → t.heap[q]? = H[q]?) → XC cls s t)
    (hf : ∀ z ∈ locs, free z.base) (hc : cells + 1 ≤ mc) (hs : slots + 6 ≤ ms) :
    W p l e R s m args below meth c H locs cells slots (vx_MQ below Qc XC args s mc ms free) (F0 m pc ls rest) := by
  intro T hT X
  have htr : e.platform.stackTraces = false := (show e.platform.stackTraces = l.stackTraces by rw [X.admits.platform]).trans hl
  have Y := vx_rebase X (R' := { frames := R.frames, locals := R.locals, cells := 1, slots := 6 }) (Nat.le_refl _) (Nat.le_refl _) hRcells hRslots
  obtain ⟨s', hA⟩ : ∃ z, z = (T.setVm s.vm).setFrames (.invoking m args :: below) := ⟨_, rfl⟩
  rw [← hA] at Y
  have hvm : s'.vm = s.vm := by rw [hA]; rfl
  have hhp : s'.heap = H := by rw [hA]; exact hT
  have hW0 : s.WarmedH s'.vm := by rw [hvm]; exact State.WarmedH.refl s
  have hat' : ∀ w ∈ vx_at0 own ic cls names, w.before args s' = true := fun w hw => vx_ot_at hW0 hvm.symm (hgood w (List.mem_cons_of_mem _ (List.mem_cons_of_mem _ hw))) (hat w hw)
  have hk' : (Cond.classLink own ik cls).before args s' = true := vx_ot_at hW0 hvm.symm (hgood _ List.mem_cons_self) hk
  have hini' : (Cond.initialized cls).before args s' = true := vx_ot_at hW0 hvm.symm (hgood _ (List.mem_cons_of_mem _ List.mem_cons_self)) hini
  have hU' : vx_Zq Bundle.tN "UNASSIGNED_STACK" Bundle.steD A s' s'.heap := by rw [hhp]; exact vx_Zq.moved hW0.alike (hU.kept hS.2.1)
  have hN' : vx_Zq Bundle.tN "SUPPRESSED_SENTINEL" Bundle.listD A s' s'.heap := by rw [hhp]; exact vx_Zq.moved hW0.alike (hN.kept hS.2.1)
  have h : ∀ w ∈ Bundle.ownAtoms0 own ic cls names, w.before args s' = true := vx_own hat' (vx_isRefq hU'.1) (vx_isRefq hN'.1) hU'.2.word hN'.2.word
  have hown' : s'.vm.findClass own = some m.cls := by rw [hvm]; exact hown
  have hins : (Cond.instantiable cls 6).before args s' = true := h _ (by simp [Bundle.ownAtoms0])
  obtain ⟨vm₁, cX, kX, hfX, hkX, -, -, X₁, st1⟩ := Y.newCold hexec (own := own) (C := cls) (index := ik) (n := 6) hown' hk' hins hini'
    (g := F0 m pc ls rest) rfl (by rw [hb]; exact d0) (Nat.le_refl _) (Nat.le_refl _)
  generalize hT1 : (T.setVm vm₁).pushCell { cls := cX, slots := kX.instanceTypes.map defaultValue, vm := .none } = T1 at X₁ st1
  have hcat : (Value.ref T.heap.size).category = 1 := rfl
  have hcellA : T1.heap[T.heap.size]? = some (freshCell cX kX) := by rw [← hT1]; exact State.heap_pushCell_size _ _
  have d3' : decode c.code (pc + 3) = .ok (.dup, 1) := by rw [hb]; exact d3
  obtain ⟨U, hsteps, hrun, hend, hW, hsame, ce, hce, hO⟩ := X₁.ctorThrow0 hexec htr (own := own) (cls := cls) (names := names) (ic := ic) hown' hcls hnames h (fun x hx => nomatch hx) hfX hkX hcellA (by rw [hhp, hT]; exact Nat.le_refl _)
    (g := { method := m, pc := pc + 4, locals := ls, stack := .ref T.heap.size :: .ref T.heap.size :: rest, locked := none }) rfl hsize rfl rfl (rest := rest) rfl
    (by rw [hb]; exact d4) (by rw [hb]; exact d7) hout hRframes (by simp only [List.map_cons, List.sum_cons, hcat]; omega) hlocks
  obtain ⟨f1, f2⟩ := vx_frame hsame
  rw [hhp] at f1 f2
  have fz : U.heap.size = H.size + 1 := by
    have a1 := hsame.2.2.1
    have a2 := (Array.getElem?_eq_some_iff.mp hce).1
    rw [hhp] at a1
    have a3 : U.heap.size ≤ H.size + (0 + 1) := a1
    have a4 : T.heap.size = H.size := by rw [hT]
    omega
  have hWs : s.WarmedH U.vm := State.WarmedH.trans hW0 hW
  have hcl : s.vm.findClass cls = some ce.cls := by
    have h9 := hO.cls
    rw [hvm] at h9
    exact h9
  have hall : s.sameButNew ({ U with vm := s.vm } : State) locs mc ms := by
    subst hA
    obtain ⟨e1, e2⟩ := hsame
    rw [State.setFrames_setFrames] at e1
    have h2 : (T.setVm s.vm).sameButNew ({ U with vm := s.vm } : State) [] (0 + 1) (0 + 6) := ⟨e1, e2⟩
    have h3 := X.same.trans h2
    rw [List.append_nil] at h3
    exact h3.mono hc hs
  refine ⟨U, ?_, .threw T.heap.size, hrun, hend, Or.inr ⟨T.heap.size, rfl, cls, ce, locs, hx U hWs.alike fz (fun q hq => f2 q hq (fun z hz => nomatch hz)), hce, hO.vm, hcl, hWs, hall, hf⟩⟩
  refine st1 _ ?_
  show Steps p.tables e below (T1.setTop { method := m, pc := pc + 3, locals := ls, stack := .ref T.heap.size :: rest, locked := none }) _
  jvm_step X₁.here [X₁.here.top, hexec, d3', Value.category]
  exact hsteps
/-- 'throw new E("text")': new; dup; ldc; invokespecial; athrow -/
theorem vx_throwS {cc : ByteArray} {pc : Nat} (hexec : p.tables.exec = Jvm.exec) (hb : c.code = cc) (hl : l.stackTraces = false) {own cls text : String} {names : List String} {ik is ic mc ms sa : Nat} {A : Nat → Prop}
    (hown : s.vm.findClass own = some m.cls) (hcls : Bundle.fit cls = true) (hnames : ∀ n ∈ names, Bundle.fit n = true)
    (hk : (Cond.classLink own ik cls).before args s = true) (hini : (Cond.initialized cls).before args s = true) (hstr : vk_R own is text sa s) (hat : ∀ w ∈ vx_atS own ic cls names, w.before args s = true)
    (hgood : ∀ w ∈ Cond.classLink own ik cls :: Cond.initialized cls :: vx_atS own ic cls names, vx_ot w = true)
    (hU : vx_Zq Bundle.tN "UNASSIGNED_STACK" Bundle.steD A s s.heap) (hN : vx_Zq Bundle.tN "SUPPRESSED_SENTINEL" Bundle.listD A s s.heap) (hS : va_S A s.heap H locs) (hsize : ls.size = c.maxLocals)
    (d0 : decode cc pc = .ok (.new ik, 3)) (d3 : decode cc (pc + 3) = .ok (.dup, 1)) (d4 : decode cc (pc + 4) = .ok (.ldc is, 2)) (d6 : decode cc (pc + 6) = .ok (.invokespecial ic, 3)) (d9 : decode cc (pc + 9) = .ok (.athrow, 1))
    (hout : ∀ x ∈ c.exceptionTable.toList, covers x (pc + 9) = false)
    (hRframes : names.length + 3 < R.frames) (hRlocals : (rest.map fun v => v.category).sum + (13 * (names.length + 1) + 43) ≤ R.locals) (hRcells : cells + 1 ≤ R.cells) (hRslots : slots + 6 ≤ R.slots) (hlocks : meth.locks = false)
    (hx : ∀ t : State, s.vm.Alike t.vm → H.size ≤ t.heap.size → (∀ q : Nat, q < H.size → t.heap[q]? = H[q]?) → XC cls s t)
    (hf : ∀ z ∈ locs, free z.base) (hc : cells + 1 ≤ mc) (hs : slots + 6 ≤ ms) :
    W p l e R s m args below meth c H locs cells slots (vx_MQ below Qc XC args s mc ms free) (F0 m pc ls rest) := by
  intro T hT X
  have htr : e.platform.stackTraces = false := (show e.platform.stackTraces = l.stackTraces by rw [X.admits.platform]).trans hl
  have Y := vx_rebase X (R' := { frames := R.frames, locals := R.locals, cells := 1, slots := 6 }) (Nat.le_refl _) (Nat.le_refl _) hRcells hRslots
  obtain ⟨s', hA⟩ : ∃ z, z = (T.setVm s.vm).setFrames (.invoking m args :: below) := ⟨_, rfl⟩
  rw [← hA] at Y
  have hvm : s'.vm = s.vm := by rw [hA]; rfl
  have hhp : s'.heap = H := by rw [hA]; exact hT
  have hW0 : s.WarmedH s'.vm := by rw [hvm]; exact State.WarmedH.refl s
  have hat' : ∀ w ∈ vx_atS own ic cls names, w.before args s' = true := fun w hw => vx_ot_at hW0 hvm.symm (hgood w (List.mem_cons_of_mem _ (List.mem_cons_of_mem _ hw))) (hat w hw)
  have hk' : (Cond.classLink own ik cls).before args s' = true := vx_ot_at hW0 hvm.symm (hgood _ List.mem_cons_self) hk
  have hini' : (Cond.initialized cls).before args s' = true := vx_ot_at hW0 hvm.symm (hgood _ (List.mem_cons_of_mem _ List.mem_cons_self)) hini
  have hU' : vx_Zq Bundle.tN "UNASSIGNED_STACK" Bundle.steD A s' s'.heap := by rw [hhp]; exact vx_Zq.moved hW0.alike (hU.kept hS.2.1)
  have hN' : vx_Zq Bundle.tN "SUPPRESSED_SENTINEL" Bundle.listD A s' s'.heap := by rw [hhp]; exact vx_Zq.moved hW0.alike (hN.kept hS.2.1)
  have h : ∀ w ∈ Bundle.ownAtoms own ic cls names, w.before args s' = true := vx_own hat' (vx_isRefq hU'.1) (vx_isRefq hN'.1) hU'.2.word hN'.2.word
  have hown' : s'.vm.findClass own = some m.cls := by rw [hvm]; exact hown
  have hins : (Cond.instantiable cls 6).before args s' = true := h _ (by simp [Bundle.ownAtoms])
  obtain ⟨vm₁, cX, kX, hfX, hkX, -, -, X₁, st1⟩ := Y.newCold hexec (own := own) (C := cls) (index := ik) (n := 6) hown' hk' hins hini'
    (g := F0 m pc ls rest) rfl (by rw [hb]; exact d0) (Nat.le_refl _) (Nat.le_refl _)
  generalize hT1 : (T.setVm vm₁).pushCell { cls := cX, slots := kX.instanceTypes.map defaultValue, vm := .none } = T1 at X₁ st1
  have hcat : (Value.ref T.heap.size).category = 1 := rfl
  have hcellA : T1.heap[T.heap.size]? = some (freshCell cX kX) := by rw [← hT1]; exact State.heap_pushCell_size _ _
  have d3' : decode c.code (pc + 3) = .ok (.dup, 1) := by rw [hb]; exact d3
  have d4' : decode c.code (pc + 4) = .ok (.ldc is, 2) := by rw [hb]; exact d4
  have hstr' : vk_R own is text sa s' := vk_R.warm hW0 hstr
  obtain ⟨U, hsteps, hrun, hend, hW, hsame, ce, hce, hO⟩ := X₁.ctorThrowS hexec htr (own := own) (cls := cls) (names := names) (ic := ic) hown' hcls hnames h (fun x hx => nomatch hx) hfX hkX hcellA (by rw [hhp, hT]; exact Nat.le_refl _) (msg := .ref sa) rfl
    (g := { method := m, pc := pc + 6, locals := ls, stack := .ref sa :: .ref T.heap.size :: .ref T.heap.size :: rest, locked := none }) rfl hsize rfl rfl (rest := rest) rfl
    (by rw [hb]; exact d6) (by rw [hb]; exact d9) hout hRframes (by simp only [List.map_cons, List.sum_cons, hcat]; omega) hlocks
  obtain ⟨f1, f2⟩ := vx_frame hsame
  rw [hhp] at f1 f2
  have hWs : s.WarmedH U.vm := State.WarmedH.trans hW0 hW
  have hcl : s.vm.findClass cls = some ce.cls := by
    have h9 := hO.cls
    rw [hvm] at h9
    exact h9
  have hall : s.sameButNew ({ U with vm := s.vm } : State) locs mc ms := by
    subst hA
    obtain ⟨e1, e2⟩ := hsame
    rw [State.setFrames_setFrames] at e1
    have h2 : (T.setVm s.vm).sameButNew ({ U with vm := s.vm } : State) [] (0 + 1) (0 + 6) := ⟨e1, e2⟩
    have h3 := X.same.trans h2
    rw [List.append_nil] at h3
    exact h3.mono hc hs
  refine ⟨U, ?_, .threw T.heap.size, hrun, hend, Or.inr ⟨T.heap.size, rfl, cls, ce, locs, hx U hWs.alike f1 (fun q hq => f2 q hq (fun z hz => nomatch hz)), hce, hO.vm, hcl, hWs, hall, hf⟩⟩
  refine st1 _ ?_
  show Steps p.tables e below (T1.setTop { method := m, pc := pc + 3, locals := ls, stack := .ref T.heap.size :: rest, locked := none }) _
  jvm_step X₁.here [X₁.here.top, hexec, d3', Value.category]
  exact X₁.ldcString hexec (own := own) (text := text) (index := is) (a := sa) hown' hstr'.1 hstr'.2
    (g := { method := m, pc := pc + 4, locals := ls, stack := .ref T.heap.size :: .ref T.heap.size :: rest, locked := none }) rfl d4' _ hsteps
/-- 'throw new E("text")', the text by a wide index -/
theorem vx_throwSW {cc : ByteArray} {pc : Nat} (hexec : p.tables.exec = Jvm.exec) (hb : c.code = cc) (hl : l.stackTraces = false) {own cls text : String} {names : List String} {ik is ic mc ms sa : Nat} {A : Nat → Prop}
    (hown : s.vm.findClass own = some m.cls) (hcls : Bundle.fit cls = true) (hnames : ∀ n ∈ names, Bundle.fit n = true)
    (hk : (Cond.classLink own ik cls).before args s = true) (hini : (Cond.initialized cls).before args s = true) (hstr : vk_R own is text sa s) (hat : ∀ w ∈ vx_atS own ic cls names, w.before args s = true)
    (hgood : ∀ w ∈ Cond.classLink own ik cls :: Cond.initialized cls :: vx_atS own ic cls names, vx_ot w = true)
    (hU : vx_Zq Bundle.tN "UNASSIGNED_STACK" Bundle.steD A s s.heap) (hN : vx_Zq Bundle.tN "SUPPRESSED_SENTINEL" Bundle.listD A s s.heap) (hS : va_S A s.heap H locs) (hsize : ls.size = c.maxLocals)
    (d0 : decode cc pc = .ok (.new ik, 3)) (d3 : decode cc (pc + 3) = .ok (.dup, 1)) (d4 : decode cc (pc + 4) = .ok (.ldc_w is, 3)) (d7 : decode cc (pc + 7) = .ok (.invokespecial ic, 3)) (d10 : decode cc (pc + 10) = .ok (.athrow, 1))
    (hout : ∀ x ∈ c.exceptionTable.toList, covers x (pc + 10) = false)
    (hRframes : names.length + 3 < R.frames) (hRlocals : (rest.map fun v => v.category).sum + (13 * (names.length + 1) + 43) ≤ R.locals) (hRcells : cells + 1 ≤ R.cells) (hRslots : slots + 6 ≤ R.slots) (hlocks : meth.locks = false)
    (hx : ∀ t : State, s.vm.Alike t.vm → H.size ≤ t.heap.size → (∀ q : Nat, q < H.size → t.heap[q]? = H[q]?) → XC cls s t)
    (hf : ∀ z ∈ locs, free z.base) (hc : cells + 1 ≤ mc) (hs : slots + 6 ≤ ms) :
    W p l e R s m args below meth c H locs cells slots (vx_MQ below Qc XC args s mc ms free) (F0 m pc ls rest) := by
  intro T hT X
  have htr : e.platform.stackTraces = false := (show e.platform.stackTraces = l.stackTraces by rw [X.admits.platform]).trans hl
  have Y := vx_rebase X (R' := { frames := R.frames, locals := R.locals, cells := 1, slots := 6 }) (Nat.le_refl _) (Nat.le_refl _) hRcells hRslots
  obtain ⟨s', hA⟩ : ∃ z, z = (T.setVm s.vm).setFrames (.invoking m args :: below) := ⟨_, rfl⟩
  rw [← hA] at Y
  have hvm : s'.vm = s.vm := by rw [hA]; rfl
  have hhp : s'.heap = H := by rw [hA]; exact hT
  have hW0 : s.WarmedH s'.vm := by rw [hvm]; exact State.WarmedH.refl s
  have hat' : ∀ w ∈ vx_atS own ic cls names, w.before args s' = true := fun w hw => vx_ot_at hW0 hvm.symm (hgood w (List.mem_cons_of_mem _ (List.mem_cons_of_mem _ hw))) (hat w hw)
  have hk' : (Cond.classLink own ik cls).before args s' = true := vx_ot_at hW0 hvm.symm (hgood _ List.mem_cons_self) hk
  have hini' : (Cond.initialized cls).before args s' = true := vx_ot_at hW0 hvm.symm (hgood _ (List.mem_cons_of_mem _ List.mem_cons_self)) hini
  have hU' : vx_Zq Bundle.tN "UNASSIGNED_STACK" Bundle.steD A s' s'.heap := by rw [hhp]; exact vx_Zq.moved hW0.alike (hU.kept hS.2.1)
  have hN' : vx_Zq Bundle.tN "SUPPRESSED_SENTINEL" Bundle.listD A s' s'.heap := by rw [hhp]; exact vx_Zq.moved hW0.alike (hN.kept hS.2.1)
  have h : ∀ w ∈ Bundle.ownAtoms own ic cls names, w.before args s' = true := vx_own hat' (vx_isRefq hU'.1) (vx_isRefq hN'.1) hU'.2.word hN'.2.word
  have hown' : s'.vm.findClass own = some m.cls := by rw [hvm]; exact hown
  have hins : (Cond.instantiable cls 6).before args s' = true := h _ (by simp [Bundle.ownAtoms])
  obtain ⟨vm₁, cX, kX, hfX, hkX, -, -, X₁, st1⟩ := Y.newCold hexec (own := own) (C := cls) (index := ik) (n := 6) hown' hk' hins hini'
    (g := F0 m pc ls rest) rfl (by rw [hb]; exact d0) (Nat.le_refl _) (Nat.le_refl _)
  generalize hT1 : (T.setVm vm₁).pushCell { cls := cX, slots := kX.instanceTypes.map defaultValue, vm := .none } = T1 at X₁ st1
  have hcat : (Value.ref T.heap.size).category = 1 := rfl
  have hcellA : T1.heap[T.heap.size]? = some (freshCell cX kX) := by rw [← hT1]; exact State.heap_pushCell_size _ _
  have d3' : decode c.code (pc + 3) = .ok (.dup, 1) := by rw [hb]; exact d3
  have d4' : decode c.code (pc + 4) = .ok (.ldc_w is, 3) := by rw [hb]; exact d4
  have hstr' : vk_R own is text sa s' := vk_R.warm hW0 hstr
  obtain ⟨U, hsteps, hrun, hend, hW, hsame, ce, hce, hO⟩ := X₁.ctorThrowS hexec htr (own := own) (cls := cls) (names := names) (ic := ic) hown' hcls hnames h (fun x hx => nomatch hx) hfX hkX hcellA (by rw [hhp, hT]; exact Nat.le_refl _) (msg := .ref sa) rfl
    (g := { method := m, pc := pc + 7, locals := ls, stack := .ref sa :: .ref T.heap.size :: .ref T.heap.size :: rest, locked := none }) rfl hsize rfl rfl (rest := rest) rfl
    (by rw [hb]; exact d7) (by rw [hb]; exact d10) hout hRframes (by simp only [List.map_cons, List.sum_cons, hcat]; omega) hlocks
  obtain ⟨f1, f2⟩ := vx_frame hsame
  rw [hhp] at f1 f2
  have hWs : s.WarmedH U.vm := State.WarmedH.trans hW0 hW
  have hcl : s.vm.findClass cls = some ce.cls := by
    have h9 := hO.cls
    rw [hvm] at h9
    exact h9
  have hall : s.sameButNew ({ U with vm := s.vm } : State) locs mc ms := by
    subst hA
    obtain ⟨e1, e2⟩ := hsame
    rw [State.setFrames_setFrames] at e1
    have h2 : (T.setVm s.vm).sameButNew ({ U with vm := s.vm } : State) [] (0 + 1) (0 + 6) := ⟨e1, e2⟩
    have h3 := X.same.trans h2
    rw [List.append_nil] at h3
    exact h3.mono hc hs
  refine ⟨U, ?_, .threw T.heap.size, hrun, hend, Or.inr ⟨T.heap.size, rfl, cls, ce, locs, hx U hWs.alike f1 (fun q hq => f2 q hq (fun z hz => nomatch hz)), hce, hO.vm, hcl, hWs, hall, hf⟩⟩
  refine st1 _ ?_
  show Steps p.tables e below (T1.setTop { method := m, pc := pc + 3, locals := ls, stack := .ref T.heap.size :: rest, locked := none }) _
  jvm_step X₁.here [X₁.here.top, hexec, d3', Value.category]
  exact X₁.ldcStringW hexec (own := own) (text := text) (index := is) (a := sa) hown' hstr'.1 hstr'.2
    (g := { method := m, pc := pc + 4, locals := ls, stack := .ref T.heap.size :: .ref T.heap.size :: rest, locked := none }) rfl d4' _ hsteps
end Ends
section Bodies
variable {l : Launch}
theorem vx_ofW {y : MethodName} {ws ws' : List Cond} {rm : Room} {Pc : Array Value → State → Prop} {Qc : Array Value → State → Outcome → State → Prop} {XC : String → State → State → Prop} {mc ms : Nat} {free : Addr → Prop} {cc : ByteArray} {maxL : Nat} {ret : Option FieldType}
    (hy : plainName y.cls = true) (hw : ws = Cond.code y cc maxL ret :: ws')
    (body : ∀ p e s m args below meth c s₁, BodyLoose p l y (headSpec ws rm) cc maxL ret e s m args below meth c s₁ → c.maxLocals = maxL → (∀ x ∈ c.exceptionTable.toList, False) → Pc args s →
      W p l e (headSpec ws rm).room s m args below meth c s.heap [] 0 0 (vx_MQ below Qc XC args s mc ms free) (entryFrame m args maxL)) : vx_Met l y ws rm Pc Qc XC mc ms free := by
  refine MetFree.of_bodyS (code := cc) (maxLocals := maxL) (ret := ret) hy ?_ ?_
  · intro args s m h hn
    obtain ⟨meth, c, h1, h2, h3, h4, h5, h6, -, -⟩ := Cond.code_spec hn (atoms_spec (ws := ws) h _ (by rw [hw]; exact List.mem_cons_self))
    exact ⟨meth, c, h1, h2, h3, h4, h5, h6⟩
  · intro p e s m args below meth c s₁ B hml hP _
    have hh0 : s₁.heap = s.heap := by rw [B.state]; rfl
    have ht : ∀ x ∈ c.exceptionTable.toList, False := by
      obtain ⟨meth9, c9, h1, h2, -, -, -, -, h7, -⟩ := Cond.code_spec B.named (atoms_spec (ws := ws) B.pre _ (by rw [hw]; exact List.mem_cons_self))
      cases Option.some.inj (h1.symm.trans B.method)
      cases Option.some.inj (h2.symm.trans (Stand.of_body B).code)
      intro x hx
      rw [Array.isEmpty_iff.mp h7] at hx
      cases hx
    obtain ⟨t, a1, o, b1, b2, b3⟩ := body p e s m args below meth c s₁ B hml ht hP s₁ hh0 (Stand.of_body B)
    exact ⟨t, o, a1, b1, b2, b3⟩
/-- the table of a body with handlers -/
theorem vx_table {p : Program} {x y : MethodName} {S : Spec} {cc bytes : ByteArray} {maxL maxL' : Nat} {ret ret' : Option FieldType} {e : Env} {s s₁ : State} {m : MethodId} {args : Array Value} {below : List Frame} {meth : Method} {c : Code} {hh : List (Nat × Nat × Nat × Nat)}
    (B : BodyLoose p l y S cc maxL ret e s m args below meth c s₁) (h : (Cond.codeWith y bytes maxL' ret' hh).before args s = true) : c.exceptionTable.toList = tableOf hh := by
  obtain ⟨m9, meth9, c9, hn9, h1, h2, -, -, h6, -⟩ := Cond.codeWith_spec h
  cases Option.some.inj (hn9.symm.trans B.named)
  cases Option.some.inj (h1.symm.trans B.method)
  cases Option.some.inj (h2.symm.trans (Stand.of_body B).code)
  rw [← h6, table_eq]
end Bodies
end VXA
/-! ===== END ===== -/
/-! ===== BEGIN a static call of a method with an exception table ===== -/
section VXS
variable {p : Program} {l : Launch} {e : Env} {R : Room} {s : State} {m : MethodId} {args : Array Value} {below : List Frame} {meth : Method} {c : Code} {T : State} {H : Heap} {locs : List Loc} {cells slots : Nat}
abbrev vx_CSW (R : Room) (s : State) (args : Array Value) (own : String) (index : Nat) (y : MethodName) (bytes : ByteArray) (maxL : Nat) (ret : Option FieldType) (hh : List (Nat × Nat × Nat × Nat)) (ws : List Cond) (rm : Room) (mc ms n : Nat) : Prop :=
  (rm.cells = mc ∧ rm.slots = ms ∧ rm.frames + 1 ≤ R.frames ∧ 8 + (maxL + 11) + rm.locals ≤ R.locals ∧ (∀ w ∈ ws, ∀ (a' : Array Value) (U : State), s.WarmedH U.vm → w.before a' U = true) ∧ Cond.codeWith y bytes maxL ret hh ∈ ws) ∧
  (Cond.codeWith y bytes maxL ret hh).before args s = true ∧ (Cond.initialized y.cls).before args s = true ∧ (y.cls ≠ "java/lang/invoke/MethodHandle" ∧ y.cls ≠ "java/lang/invoke/VarHandle") ∧
  (∀ sig, parseMethodDescriptor y.desc = some sig → n = sig.parameters.length) ∧ (Cond.methodLink own index y).before args s = true ∧ (Cond.static y).before args s = true
theorem vx_cwSW {own : String} {index maxL mc ms : Nat} {y : MethodName} {bytes : ByteArray} {ret : Option FieldType} {hh : List (Nat × Nat × Nat × Nat)} {Ts ws ws' : List Cond} {rm : Room} (n : Nat) (ht : ∀ w ∈ Ts, w.before args s = true) (hT : GoodIn Ts (va_wsS own index y ws)) (hw : ws = Cond.codeWith y bytes maxL ret hh :: ws') (hrc : rm.cells = mc) (hrs : rm.slots = ms)
    (hd : y.cls ≠ "java/lang/invoke/MethodHandle" ∧ y.cls ≠ "java/lang/invoke/VarHandle" ∧ (parseMethodDescriptor y.desc).map (fun d => d.parameters.length) = some n) (hR : rm.frames + 1 ≤ R.frames ∧ 8 + (maxL + 11) + rm.locals ≤ R.locals) :
    vx_CSW R s args own index y bytes maxL ret hh ws rm mc ms n := by
  have ok : ∀ w ∈ va_wsS own index y ws, w.before args s = true := fun w h => ht w (hT w h).1
  have hG : GoodIn Ts ws := fun w h => hT w (by unfold va_wsS; exact List.mem_append_right _ h)
  have hc : Cond.codeWith y bytes maxL ret hh ∈ ws := by rw [hw]; exact List.mem_cons_self
  refine ⟨⟨hrc, hrs, hR.1, hR.2, pay_in ht hG, hc⟩, ht _ (hG _ hc).1, ok _ (by simp [va_wsS]), ⟨hd.1, hd.2.1⟩, fun sig h => ?_, ok _ (by simp [va_wsS]), ok _ (by simp [va_wsS])⟩
  have h2 := hd.2.2
  rw [h] at h2
  exact (Option.some.inj h2).symm
theorem vx_callSW (X : Stand p l e R s m args below meth c T locs cells slots) (hexec : p.tables.exec = Jvm.exec) {own : String} {index : Nat} {y : MethodName} {bytes : ByteArray} {maxL : Nat} {ret : Option FieldType} {hh : List (Nat × Nat × Nat × Nat)}
    (hown : s.vm.findClass own = some m.cls) (hlink : (Cond.methodLink own index y).before args s = true) (hstat : (Cond.static y).before args s = true) (hinit : (Cond.initialized y.cls).before args s = true)
    (hcode : (Cond.codeWith y bytes maxL ret hh).before args s = true) (hy : y.cls ≠ "java/lang/invoke/MethodHandle" ∧ y.cls ≠ "java/lang/invoke/VarHandle")
    {W9 : Nat} {Pre : Pt → Array Value → Prop} {Post : Pt → Array Value → Option Value → Pt → Prop} (hK : Back l R p e below s args y 3 W9 Pre Post)
    {g : JFrame} (hg : g.method = m) (hsize : g.locals.size = c.maxLocals) {argsL rest : List Value} (hlen : ∀ sig, parseMethodDescriptor y.desc = some sig → argsL.length = sig.parameters.length)
    (hstack : g.stack = argsL.reverse ++ rest) (hW : 2 * g.monitorRoom + (rest.map fun v => v.category).sum ≤ W9) (hdg : decode c.code g.pc = .ok (.invokestatic index, 3))
    (hpre : ∀ vm₁, s.WarmedH vm₁ → Pre ⟨T.setVm vm₁, locs, cells, slots⟩ argsL.toArray) :
    ∃ (v : Option Value) (vm₁ : Vm) (B : Pt), s.WarmedH vm₁ ∧ Stand p l e R s m args below meth c B.U B.locs B.cells B.slots ∧ Post ⟨T.setVm vm₁, locs, cells, slots⟩ argsL.toArray v B ∧
      ∀ target, Steps p.tables e below (B.U.setTop { g with pc := g.pc + 3, stack := v.toList ++ rest }) target → Steps p.tables e below (T.setTop g) target := by
  obtain ⟨mk, methM, cM, hnamed, hmethM, -, -, -, -, -, -, hsigM⟩ := Cond.codeWith_spec hcode
  have hstatic : methM.isStatic = true := Cond.static_spec hnamed hmethM hstat
  obtain ⟨kP, hkP, -⟩ := className_of_methodNamed hnamed
  have hinitP : kP.init = .initialized := Cond.initialized_spec (findClass_of_methodNamed hnamed) hkP hinit
  obtain ⟨vm₁, X₁, hstep₁⟩ := X.invokestatic hexec hown hlink hnamed hmethM hstatic hkP hinitP hy (g := g) hg (argsL := argsL) (rest := rest) (hlen _ hsigM) hstack hdg
  obtain ⟨v, B, X', hpost, hsteps⟩ := hK m meth c ⟨T.setVm vm₁, locs, cells, slots⟩ { g with stack := rest } (.invokestatic index) mk argsL.toArray X₁ hg hsize hdg hW (X₁.named hnamed) (hpre vm₁ X₁.warmed)
  exact ⟨v, vm₁, B, X₁.warmed, X', hpost, fun target h => hstep₁ _ fun acts => by rw [doInvoke_state]; exact hsteps.trans h⟩
theorem vx_runSW {y : MethodName} {bytes cc : ByteArray} {maxL nL mc ms n index : Nat} {ret : Option FieldType} {hh : List (Nat × Nat × Nat × Nat)} {ws : List Cond} {rm : Room} {Pc : Array Value → State → Prop} {Qc : Array Value → State → Outcome → State → Prop} {free : Addr → Prop} {Ts : List Cond} {own : String} {As rest : List Value} {g : JFrame}
    (S : CallFix p m c cc nL s args Ts own) (hM : Met l y ws rm Pc Qc mc ms free) (cw : vx_CSW R s args own index y bytes maxL ret hh ws rm mc ms n) (hp : PreS s H Pc As)
    (hg : g.method = m) (hn : As.length = n) (hsize : g.locals.size = nL) (hstack : g.stack = As.reverse ++ rest) (hW : 2 * g.monitorRoom + (rest.map fun v => v.category).sum ≤ 8) (hdg : decode cc g.pc = .ok (.invokestatic index, 3)) (hf : cells + mc ≤ R.cells ∧ slots + ms ≤ R.slots) :
    va_Run p l e R s m args below meth c H locs cells slots mc ms g rest (Qc As.toArray) (free) := by
  obtain ⟨⟨hrc, hrs, hfr, hlo, hws, hcw⟩, hcode, hini, hy, hlen, hl, hstt⟩ := cw
  have hK : Back l R p e below s args y 3 8 (PreOf R mc ms Pc) (PostOf Qc mc ms free) := va_backW (hh := hh) (bytes := bytes) (maxL := maxL) (ret := ret) hM hp.1 hrc hrs hfr hlo hws hcw (fun a' U hW => word_at hW (Or.inl (by first | rfl | simp [Cond.onTables, Cond.keeps, Cond.steady])) hini)
  obtain ⟨hx, hb, hml, ho, -⟩ := S
  intro T hT X
  obtain ⟨v, vm₁, ⟨U', l2, c2, s2⟩, hW₁, X', ⟨g', mk, t, L, e1, e2, hq, h1, hL, h2, h3⟩, st⟩ := vx_callSW X hx (hh := hh) (bytes := bytes) (maxL := maxL) (ret := ret) ho hl hstt hini hcode hy hK hg (hsize.trans hml.symm) (argsL := As) (rest := rest) (fun sig h => hn.trans (hlen sig h)) hstack hW (by rw [hb]; exact hdg)
    (fun vm₁ hW₁ => ⟨hf.1, hf.2, hp.2 (T.setVm vm₁) hT hW₁⟩)
  dsimp only [Pt.U, Pt.locs, Pt.cells, Pt.slots] at X' e1 e2 h1 h2 h3 st
  subst h1; subst h2; subst h3
  exact ⟨v, (T.setVm vm₁).calling g' mk As.toArray, t, U', L, hT, X', hL, e1, e2, hq, st⟩
/-- not caught here, past rows that name other classes: it goes on to the caller -/
theorem vx_outP {p : Program} {l : Launch} {e : Env} {R : Room} {s : State} {m : MethodId} {args : Array Value} {below : List Frame} {meth : Method} {c : Code} {H : Heap} {locs : List Loc} {cells slots : Nat} {free : Addr → Prop} {ls : Array Slot} {rest : List Value} {Qc : Array Value → State → Outcome → State → Prop} {XC : String → State → State → Prop}
    {pc : Nat} {own E : String} {ce : Cell} {q : Addr} {mc ms : Nat} (hown : s.vm.findClass own = some m.cls) (hlocks : meth.locks = false)
    (hpass : ∀ z ∈ c.exceptionTable.toList, covers z pc = false ∨ (z.catchType ≠ 0 ∧ ∃ nm : String, (Cond.classLink own z.catchType nm).before args s = true ∧ va_Nc E nm s)) (hcell : H[q]? = some ce) (hv : ce.vm = .none) (hcl : s.vm.findClass E = some ce.cls)
    (hx : ∀ t : State, t.heap = H → s.vm.Alike t.vm → XC E s t) (hf : ∀ z ∈ locs, free z.base) (hc : cells ≤ mc) (hs : slots ≤ ms) :
    vx_W p l e R s m args below meth c H locs cells slots (vx_MQ below Qc XC args s mc ms free) (F0 m pc ls rest) q := by
  intro T hT X
  have hpl : e.platform.magicAccessors = ({} : Platform).magicAccessors := by rw [X.admits.platform]
  obtain ⟨vm', hW', X', st⟩ := X.outThrough hlocks q (g := F0 m pc ls rest) rfl rfl rfl (cell := ce) (by rw [hT]; exact hcell) (by rw [hv]; rfl)
    (by obtain ⟨k9, h9, -⟩ := Vm.findClass_spec hcl; exact ⟨k9, h9⟩) (fun z hz => by
      rcases hpass z hz with h | ⟨hz0, nm, hl1, hn1⟩
      · exact Or.inl h
      · obtain ⟨c6, hc6, hcl6⟩ := Cond.classLink_spec hown hl1 e.platform hpl
        obtain ⟨a8, b8, h1, h2, h3⟩ := hn1
        cases Option.some.inj (h1.symm.trans hcl)
        cases Option.some.inj (h2.symm.trans hc6)
        exact Or.inr ⟨hz0, _, hcl6, h3⟩)
  obtain ⟨g₀, hfr⟩ := X'.frames_eq
  have hcell9 : ((T.setVm vm').setFrames (.throwing q :: below)).heap[q]? = some ce := by
    show T.heap[q]? = some ce
    rw [hT]; exact hcell
  have hend : Ended ((T.setVm vm').setFrames (.throwing q :: below)) below (.threw q) := State.frames_setFrames _ (State.cur_lt_of_frames hfr)
  refine ⟨(T.setVm vm').setFrames (.throwing q :: below), ?_, .threw q, X'.here.running, hend, Or.inr ⟨q, rfl, E, ce, locs, hx _ hT (X'.ends _).1.alike, hcell9, hv, hcl, (X'.ends _).1, (X'.ends _).2.mono hc hs, hf⟩⟩
  rw [X.pushThrowing_eq]
  exact st
/-- a thing of a world lies in the heap -/
theorem vx_lt {D : va_G} {cl : List vw_C} {ws : va_W} {H1 : Heap} (h : va_P D cl ws H1) {k : Nat} {q : Nat × va_E} (hk : ws[k]? = some q) : q.1 < H1.size := (h k q hk).lt
end VXS
/-! ===== END ===== -/
/-! ===== BEGIN methods with a table of their own: called by a name, returning or throwing ===== -/
section VXH
/-! vx_backW, vx_callVX, vx_callSX, vx_callVW, vx_runVW, vx_runVX, vx_runSX, vx_ofWH follow the same proofs as their sisters above (Free/Laws.lean, Shelf42/LK1.lean); vx_outP calls Shelf42/NT130.lean (outThrough). -/
section
variable {l : Launch} {R : Room} {p : Program} {e : Env} {below : List Frame} {s : State} {sargs : Array Value} {y : MethodName} {len W9 : Nat}
theorem vx_backW {ws : List Cond} {rm : Room} {Pc : Array Value → State → Prop} {Qc : Array Value → State → Outcome → State → Prop} {XC : String → State → State → Prop} {mc ms : Nat} {free : Addr → Prop} {bytes : ByteArray} {maxL : Nat} {ret : Option FieldType} {hh : List (Nat × Nat × Nat × Nat)}
    (hM : vx_Met l y ws rm Pc Qc XC mc ms free) (hblind : FrameBlind Pc) (hrc : rm.cells = mc) (hrs : rm.slots = ms)
    (hframes : rm.frames + 1 ≤ R.frames) (hlocals : W9 + (maxL + 11) + rm.locals ≤ R.locals)
    (hws : ∀ w ∈ ws, ∀ a' U, s.WarmedH U.vm → w.before a' U = true) (hcode : Cond.codeWith y bytes maxL ret hh ∈ ws) (hinit : ∀ a' U, s.WarmedH U.vm → (Cond.initialized y.cls).before a' U = true) :
    vx_Back l R p e below s sargs y len W9 (PreOf R mc ms Pc) (PostOf Qc mc ms free) (vx_Post XC mc ms free) := by
  intro m meth c A g ig mk a X hg hsize hdg hW hn hp
  have h1 : (headSpec ws rm).pre.before a A.U = true := atoms_intro fun w hw => hws w hw _ _ X.warmed
  have h2 : (Cond.codeWith y bytes maxL ret hh).before a A.U = true := hws _ hcode _ _ X.warmed
  have h3 : (Cond.initialized y.cls).before a A.U = true := hinit _ _ X.warmed
  have h4 : A.cells + (headSpec ws rm).room.cells ≤ R.cells := by rw [show (headSpec ws rm).room.cells = mc from hrc]; exact hp.1
  have h5 : A.slots + (headSpec ws rm).room.slots ≤ R.slots := by rw [show (headSpec ws rm).room.slots = ms from hrs]; exact hp.2.1
  have hPc : Pc a (A.U.calling g mk a) := hblind _ _ _ _ hp.2.2
  obtain ⟨U, Ls, c0, s0⟩ := A
  dsimp only [Pt.U, Pt.locs, Pt.cells, Pt.slots] at h1 h2 h3 h4 h5 X hn hPc ⊢
  obtain ⟨m9, methY, cY, hn9, hmY, hcY, -, hlY, -⟩ := Cond.codeWith_spec h2
  cases Option.some.inj (hn9.symm.trans hn)
  obtain ⟨kY, hkY, -⟩ := className_of_methodNamed hn
  have hinitY : kY.init = .initialized := Cond.initialized_spec (findClass_of_methodNamed hn) hkY h3
  have h : At U g.method c below := by rw [hg]; exact X.here
  have hlocals9 : W9 + (maxL + 11) + (headSpec ws rm).room.locals ≤ R.locals := hlocals
  have happ : (headSpec ws rm).appliesLoose y e.platform (U.calling g mk a) = true :=
    Spec.appliesLoose_calling (g := g) h hdg hn hkY hinitY
      (X.room_calling (g := g) (R' := (headSpec ws rm).room) hsize hmY hcY hframes (by rw [hlY]; omega) h4 h5) h1
  obtain ⟨mid, hmid⟩ := h.above
  have hfr : (U.setTop g).frames = (.java g :: mid) ++ below := by rw [State.frames_setTop' g h.top, hmid]; rfl
  obtain ⟨o, s₂, hsteps, -, hend, hq⟩ := Steps.callFree hM p X.admits X.cas X.clock (acts := []) hfr happ hPc trivial
  have hq' : vx_Q Qc XC mc ms free a (U.calling g mk a) o s₂ := hq
  rw [State.frames_setTop' g h.top] at hend
  obtain ⟨g₀, hg0⟩ := Option.isSome_iff_exists.mp h.top
  obtain ⟨r, hr⟩ := State.topJava?_eq_some.mp hg0
  have hr' : (({ U with heap := s₂.heap, slotsUsed := s₂.slotsUsed } : State).setVm s₂.vm).frames = .java g₀ :: r := hr
  rcases hq' with ⟨hqc, L, hfe, hL⟩ | ⟨q, rfl, E, ce, L, hx, hce, hcv, hcl, hW₂, hsm, hL⟩
  · obtain ⟨⟨v, rfl⟩, hW₂, e2, q2, q3, q4, q5, q6⟩ := id hfe
    have e3 : s₂ = ({ (U.calling g mk a).setFrames s₂.frames with heap := s₂.heap, slotsUsed := s₂.slotsUsed } : State).setVm s₂.vm := by
      have : s₂ = ({ s₂ with vm := (U.calling g mk a).vm } : State).setVm s₂.vm := rfl
      rw [e2] at this
      exact this
    obtain ⟨c₂, i₂, len₂, hc₂, hd₂, hf₂⟩ := hend
    have hW' : U.WarmedH s₂.vm := hW₂
    have hcc : c₂ = c := by
      have h1 : s₂.code? g.method = U.code? g.method := by
        rw [State.code?_eq, State.code?_eq, hW'.alike.method?]
      exact Option.some.inj (hc₂.symm.trans (h1.trans h.code))
    subst hcc
    have hlen : len₂ = len := by rw [hdg] at hd₂; cases hd₂; rfl
    subst hlen
    have hs₂ : s₂ = (({ U with heap := s₂.heap, slotsUsed := s₂.slotsUsed } : State).setVm s₂.vm).setTop { g with pc := g.pc + len₂, stack := v.toList ++ g.stack } := by
      refine e3.trans ?_
      rw [hf₂, State.calling_eq h.top, State.setFrames_setFrames, State.setTop_of_frames _ hr', hr]
      rfl
    have hsame : U.sameButNew ({ U with heap := s₂.heap, slotsUsed := s₂.slotsUsed } : State) L mc ms := by
      refine ⟨?_, q2, q3, q4, q5, q6⟩
      obtain ⟨t, ht, -⟩ := State.frames_cons hr
      show ({ U with heap := s₂.heap, slotsUsed := s₂.slotsUsed } : State) = { U.setFrames U.frames with heap := s₂.heap, slotsUsed := s₂.slotsUsed }
      rw [State.setFrames_self ht]
    subst hg
    refine Or.inl ⟨v, ⟨(({ U with heap := s₂.heap, slotsUsed := s₂.slotsUsed } : State).setVm s₂.vm), Ls ++ L, c0 + mc, s0 + ms⟩,
      ⟨X.admits, X.cas, X.clock, X.frames, X.room, X.hears, X.method, X.code, (X.here.setHeapUsed s₂.heap s₂.slotsUsed).setVm hW'.alike, X.tail, State.WarmedH.trans X.warmed hW', X.limits, X.bytes, X.same.trans (hsame.setVm s.vm)⟩,
      ⟨g, mk, s₂, L, rfl, rfl, hqc, rfl, hL, rfl, rfl⟩, ?_⟩
    show Steps p.tables e below _ ((({ U with heap := s₂.heap, slotsUsed := s₂.slotsUsed } : State).setVm s₂.vm).setTop { g with pc := g.pc + len₂, stack := v.toList ++ g.stack })
    rw [← hs₂]
    exact hsteps
  · obtain ⟨e2, q2, q3, q4, q5, q6⟩ := id hsm
    have e3 : s₂ = ({ (U.calling g mk a).setFrames s₂.frames with heap := s₂.heap, slotsUsed := s₂.slotsUsed } : State).setVm s₂.vm := by
      have : s₂ = ({ s₂ with vm := (U.calling g mk a).vm } : State).setVm s₂.vm := rfl
      rw [e2] at this
      exact this
    have hf₂ : s₂.frames = .throwing q :: .java g :: U.frames.tail := hend
    have hW' : U.WarmedH s₂.vm := hW₂
    have hs₂ : s₂ = ((({ U with heap := s₂.heap, slotsUsed := s₂.slotsUsed } : State).setVm s₂.vm).setTop g).pushFrame (.throwing q) := by
      refine e3.trans ?_
      rw [hf₂, State.calling_eq h.top, State.setFrames_setFrames, State.pushFrame, State.frames_setTop _ hr', State.setTop_of_frames _ hr', State.setFrames_setFrames, hr]
      rfl
    have hsame : U.sameButNew ({ U with heap := s₂.heap, slotsUsed := s₂.slotsUsed } : State) L mc ms := by
      refine ⟨?_, q2, q3, q4, q5, q6⟩
      obtain ⟨t, ht, -⟩ := State.frames_cons hr
      show ({ U with heap := s₂.heap, slotsUsed := s₂.slotsUsed } : State) = { U.setFrames U.frames with heap := s₂.heap, slotsUsed := s₂.slotsUsed }
      rw [State.setFrames_self ht]
    subst hg
    refine Or.inr ⟨q, ⟨(({ U with heap := s₂.heap, slotsUsed := s₂.slotsUsed } : State).setVm s₂.vm), Ls ++ L, c0 + mc, s0 + ms⟩,
      ⟨X.admits, X.cas, X.clock, X.frames, X.room, X.hears, X.method, X.code, (X.here.setHeapUsed s₂.heap s₂.slotsUsed).setVm hW'.alike, X.tail, State.WarmedH.trans X.warmed hW', X.limits, X.bytes, X.same.trans (hsame.setVm s.vm)⟩,
      ⟨g, mk, s₂, L, E, ce, rfl, rfl, hx, hce, hcv, hcl, rfl, hL, rfl, rfl⟩, ?_⟩
    show Steps p.tables e below _ (((({ U with heap := s₂.heap, slotsUsed := s₂.slotsUsed } : State).setVm s₂.vm).setTop g).pushFrame (.throwing q))
    rw [← hs₂]
    exact hsteps
end
variable {p : Program} {l : Launch} {e : Env} {R : Room} {s : State} {m : MethodId} {args : Array Value} {below : List Frame} {meth : Method} {c : Code} {T : State} {H : Heap} {locs : List Loc} {cells slots : Nat}
theorem vx_callVX (X : Stand p l e R s m args below meth c T locs cells slots) (hexec : p.tables.exec = Jvm.exec) {own C : String} {index : Nat} {y : MethodName} {bytes : ByteArray} {maxL : Nat} {ret : Option FieldType} {hh : List (Nat × Nat × Nat × Nat)}
    (hown : s.vm.findClass own = some m.cls) (hlink : (Cond.methodLink own index y).before args s = true) (hinst : (Cond.instanceMethod y).before args s = true) (hsel : (Cond.selects C y y).before args s = true)
    (hcode : (Cond.codeWith y bytes maxL ret hh).before args s = true) (hy : y.cls ≠ "java/lang/invoke/MethodHandle" ∧ y.cls ≠ "java/lang/invoke/VarHandle")
    {W9 : Nat} {Pre : Pt → Array Value → Prop} {Post : Pt → Array Value → Option Value → Pt → Prop} {PostX : Pt → Array Value → Addr → Pt → Prop} (hK : vx_Back l R p e below s args y 3 W9 Pre Post PostX)
    {b : Addr} {cellB : Cell} (hcell : T.heap[b]? = some cellB) (hobj : cellB.vm.isStatics = false) (hcls : s.vm.findClass C = some cellB.cls)
    {g : JFrame} (hg : g.method = m) (hsize : g.locals.size = c.maxLocals) {argsL rest : List Value} (hlen : ∀ sig, parseMethodDescriptor y.desc = some sig → argsL.length = sig.parameters.length)
    (hstack : g.stack = argsL.reverse ++ .ref b :: rest) (hW : 2 * g.monitorRoom + (rest.map fun v => v.category).sum ≤ W9) (hdg : decode c.code g.pc = .ok (.invokevirtual index, 3))
    (hpre : ∀ vm₁, s.WarmedH vm₁ → Pre ⟨T.setVm vm₁, locs, cells, slots⟩ (Value.ref b :: argsL).toArray) :
    (∃ (v : Option Value) (vm₁ : Vm) (B : Pt), s.WarmedH vm₁ ∧ Stand p l e R s m args below meth c B.U B.locs B.cells B.slots ∧ Post ⟨T.setVm vm₁, locs, cells, slots⟩ (Value.ref b :: argsL).toArray v B ∧
      ∀ target, Steps p.tables e below (B.U.setTop { g with pc := g.pc + 3, stack := v.toList ++ rest }) target → Steps p.tables e below (T.setTop g) target) ∨
    (∃ (q : Addr) (vm₁ : Vm) (B : Pt), s.WarmedH vm₁ ∧ Stand p l e R s m args below meth c B.U B.locs B.cells B.slots ∧ PostX ⟨T.setVm vm₁, locs, cells, slots⟩ (Value.ref b :: argsL).toArray q B ∧
      Steps p.tables e below (T.setTop g) ((B.U.setTop { g with stack := rest }).pushFrame (.throwing q))) := by
  obtain ⟨mk, methM, hnamed, hmethM, hstM, habM⟩ := Cond.instanceMethod_spec hinst
  obtain ⟨m8, methM', cM, hn8, hmethM', -, -, -, -, -, -, hsigM⟩ := Cond.codeWith_spec hcode
  cases Option.some.inj (hn8.symm.trans hnamed)
  cases hmethM.symm.trans hmethM'
  obtain ⟨c2, r2, m2, q1, q2, q3, q4, kP, hkP, hkPi⟩ := Cond.selects_spec hsel
  cases hcls.symm.trans q1
  cases (State.methodFound?_of_named hnamed hy).symm.trans q2
  cases hnamed.symm.trans q3
  have hselP : selectMethod e.platform s.vm cellB.cls mk = .method mk := by rw [Launch.admits_selectMethod X.admits]; exact q4
  obtain ⟨vm₁, X₁, hstep₁⟩ := X.invokevirtual hexec hown hlink hnamed hmethM hstM hkP hkPi hy (a := b) (cell := cellB) hcell
    (fun z h => by rw [h] at hobj; cases hobj) hselP hmethM habM hkP hkPi (g := g) hg (argsL := argsL) (rest := rest) (hlen _ hsigM) hstack hdg
  rcases hK m meth c ⟨T.setVm vm₁, locs, cells, slots⟩ { g with stack := rest } (.invokevirtual index) mk (Value.ref b :: argsL).toArray X₁ hg hsize hdg hW (X₁.named hnamed) (hpre vm₁ X₁.warmed) with ⟨v, B, X', hpost, hsteps⟩ | ⟨q, B, X', hpost, hsteps⟩
  · exact Or.inl ⟨v, vm₁, B, X₁.warmed, X', hpost, fun target h => hstep₁ _ fun acts => by rw [doInvoke_state]; exact hsteps.trans h⟩
  · exact Or.inr ⟨q, vm₁, B, X₁.warmed, X', hpost, hstep₁ _ fun acts => by rw [doInvoke_state]; exact hsteps⟩
theorem vx_callSX (X : Stand p l e R s m args below meth c T locs cells slots) (hexec : p.tables.exec = Jvm.exec) {own : String} {index : Nat} {y : MethodName} {bytes : ByteArray} {maxL : Nat} {ret : Option FieldType} {hh : List (Nat × Nat × Nat × Nat)}
    (hown : s.vm.findClass own = some m.cls) (hlink : (Cond.methodLink own index y).before args s = true) (hstat : (Cond.static y).before args s = true) (hinit : (Cond.initialized y.cls).before args s = true)
    (hcode : (Cond.codeWith y bytes maxL ret hh).before args s = true) (hy : y.cls ≠ "java/lang/invoke/MethodHandle" ∧ y.cls ≠ "java/lang/invoke/VarHandle")
    {W9 : Nat} {Pre : Pt → Array Value → Prop} {Post : Pt → Array Value → Option Value → Pt → Prop} {PostX : Pt → Array Value → Addr → Pt → Prop} (hK : vx_Back l R p e below s args y 3 W9 Pre Post PostX)
    {g : JFrame} (hg : g.method = m) (hsize : g.locals.size = c.maxLocals) {argsL rest : List Value} (hlen : ∀ sig, parseMethodDescriptor y.desc = some sig → argsL.length = sig.parameters.length)
    (hstack : g.stack = argsL.reverse ++ rest) (hW : 2 * g.monitorRoom + (rest.map fun v => v.category).sum ≤ W9) (hdg : decode c.code g.pc = .ok (.invokestatic index, 3))
    (hpre : ∀ vm₁, s.WarmedH vm₁ → Pre ⟨T.setVm vm₁, locs, cells, slots⟩ argsL.toArray) :
    (∃ (v : Option Value) (vm₁ : Vm) (B : Pt), s.WarmedH vm₁ ∧ Stand p l e R s m args below meth c B.U B.locs B.cells B.slots ∧ Post ⟨T.setVm vm₁, locs, cells, slots⟩ argsL.toArray v B ∧
      ∀ target, Steps p.tables e below (B.U.setTop { g with pc := g.pc + 3, stack := v.toList ++ rest }) target → Steps p.tables e below (T.setTop g) target) ∨
    (∃ (q : Addr) (vm₁ : Vm) (B : Pt), s.WarmedH vm₁ ∧ Stand p l e R s m args below meth c B.U B.locs B.cells B.slots ∧ PostX ⟨T.setVm vm₁, locs, cells, slots⟩ argsL.toArray q B ∧
      Steps p.tables e below (T.setTop g) ((B.U.setTop { g with stack := rest }).pushFrame (.throwing q))) := by
  obtain ⟨mk, methM, cM, hnamed, hmethM, -, -, -, -, -, -, hsigM⟩ := Cond.codeWith_spec hcode
  have hstatic : methM.isStatic = true := Cond.static_spec hnamed hmethM hstat
  obtain ⟨kP, hkP, -⟩ := className_of_methodNamed hnamed
  have hinitP : kP.init = .initialized := Cond.initialized_spec (findClass_of_methodNamed hnamed) hkP hinit
  obtain ⟨vm₁, X₁, hstep₁⟩ := X.invokestatic hexec hown hlink hnamed hmethM hstatic hkP hinitP hy (g := g) hg (argsL := argsL) (rest := rest) (hlen _ hsigM) hstack hdg
  rcases hK m meth c ⟨T.setVm vm₁, locs, cells, slots⟩ { g with stack := rest } (.invokestatic index) mk argsL.toArray X₁ hg hsize hdg hW (X₁.named hnamed) (hpre vm₁ X₁.warmed) with ⟨v, B, X', hpost, hsteps⟩ | ⟨q, B, X', hpost, hsteps⟩
  · exact Or.inl ⟨v, vm₁, B, X₁.warmed, X', hpost, fun target h => hstep₁ _ fun acts => by rw [doInvoke_state]; exact hsteps.trans h⟩
  · exact Or.inr ⟨q, vm₁, B, X₁.warmed, X', hpost, hstep₁ _ fun acts => by rw [doInvoke_state]; exact hsteps⟩
theorem vx_callVW (X : Stand p l e R s m args below meth c T locs cells slots) (hexec : p.tables.exec = Jvm.exec) {own C : String} {index : Nat} {y : MethodName} {bytes : ByteArray} {maxL : Nat} {ret : Option FieldType} {hh : List (Nat × Nat × Nat × Nat)}
    (hown : s.vm.findClass own = some m.cls) (hlink : (Cond.methodLink own index y).before args s = true) (hinst : (Cond.instanceMethod y).before args s = true) (hsel : (Cond.selects C y y).before args s = true)
    (hcode : (Cond.codeWith y bytes maxL ret hh).before args s = true) (hy : y.cls ≠ "java/lang/invoke/MethodHandle" ∧ y.cls ≠ "java/lang/invoke/VarHandle")
    {W9 : Nat} {Pre : Pt → Array Value → Prop} {Post : Pt → Array Value → Option Value → Pt → Prop} (hK : Back l R p e below s args y 3 W9 Pre Post)
    {b : Addr} {cellB : Cell} (hcell : T.heap[b]? = some cellB) (hobj : cellB.vm.isStatics = false) (hcls : s.vm.findClass C = some cellB.cls)
    {g : JFrame} (hg : g.method = m) (hsize : g.locals.size = c.maxLocals) {argsL rest : List Value} (hlen : ∀ sig, parseMethodDescriptor y.desc = some sig → argsL.length = sig.parameters.length)
    (hstack : g.stack = argsL.reverse ++ .ref b :: rest) (hW : 2 * g.monitorRoom + (rest.map fun v => v.category).sum ≤ W9) (hdg : decode c.code g.pc = .ok (.invokevirtual index, 3))
    (hpre : ∀ vm₁, s.WarmedH vm₁ → Pre ⟨T.setVm vm₁, locs, cells, slots⟩ (Value.ref b :: argsL).toArray) :
    ∃ (v : Option Value) (vm₁ : Vm) (B : Pt), s.WarmedH vm₁ ∧ Stand p l e R s m args below meth c B.U B.locs B.cells B.slots ∧ Post ⟨T.setVm vm₁, locs, cells, slots⟩ (Value.ref b :: argsL).toArray v B ∧
      ∀ target, Steps p.tables e below (B.U.setTop { g with pc := g.pc + 3, stack := v.toList ++ rest }) target → Steps p.tables e below (T.setTop g) target := by
  obtain ⟨mk, methM, hnamed, hmethM, hstM, habM⟩ := Cond.instanceMethod_spec hinst
  obtain ⟨m8, methM', cM, hn8, hmethM', -, -, -, -, -, -, hsigM⟩ := Cond.codeWith_spec hcode
  cases Option.some.inj (hn8.symm.trans hnamed)
  cases hmethM.symm.trans hmethM'
  obtain ⟨c2, r2, m2, q1, q2, q3, q4, kP, hkP, hkPi⟩ := Cond.selects_spec hsel
  cases hcls.symm.trans q1
  cases (State.methodFound?_of_named hnamed hy).symm.trans q2
  cases hnamed.symm.trans q3
  have hselP : selectMethod e.platform s.vm cellB.cls mk = .method mk := by rw [Launch.admits_selectMethod X.admits]; exact q4
  obtain ⟨vm₁, X₁, hstep₁⟩ := X.invokevirtual hexec hown hlink hnamed hmethM hstM hkP hkPi hy (a := b) (cell := cellB) hcell
    (fun z h => by rw [h] at hobj; cases hobj) hselP hmethM habM hkP hkPi (g := g) hg (argsL := argsL) (rest := rest) (hlen _ hsigM) hstack hdg
  obtain ⟨v, B, X', hpost, hsteps⟩ := hK m meth c ⟨T.setVm vm₁, locs, cells, slots⟩ { g with stack := rest } (.invokevirtual index) mk (Value.ref b :: argsL).toArray X₁ hg hsize hdg hW (X₁.named hnamed) (hpre vm₁ X₁.warmed)
  exact ⟨v, vm₁, B, X₁.warmed, X', hpost, fun target h => hstep₁ _ fun acts => by rw [doInvoke_state]; exact hsteps.trans h⟩
abbrev vx_CVW (R : Room) (s : State) (args : Array Value) (own C : String) (index : Nat) (y : MethodName) (bytes : ByteArray) (maxL : Nat) (ret : Option FieldType) (hh : List (Nat × Nat × Nat × Nat)) (ws : List Cond) (rm : Room) (mc ms n : Nat) : Prop :=
  (rm.cells = mc ∧ rm.slots = ms ∧ rm.frames + 1 ≤ R.frames ∧ 8 + (maxL + 11) + rm.locals ≤ R.locals ∧ (∀ w ∈ ws, ∀ (a' : Array Value) (U : State), s.WarmedH U.vm → w.before a' U = true) ∧ Cond.codeWith y bytes maxL ret hh ∈ ws) ∧
  (Cond.codeWith y bytes maxL ret hh).before args s = true ∧ (Cond.initialized y.cls).before args s = true ∧ (y.cls ≠ "java/lang/invoke/MethodHandle" ∧ y.cls ≠ "java/lang/invoke/VarHandle") ∧
  (∀ sig, parseMethodDescriptor y.desc = some sig → n = sig.parameters.length) ∧ (Cond.methodLink own index y).before args s = true ∧ (Cond.instanceMethod y).before args s = true ∧ (Cond.selects C y y).before args s = true
theorem vx_cwVW {own C : String} {index maxL mc ms : Nat} {y : MethodName} {bytes : ByteArray} {ret : Option FieldType} {hh : List (Nat × Nat × Nat × Nat)} {Ts ws ws' : List Cond} {rm : Room} (n : Nat) (ht : ∀ w ∈ Ts, w.before args s = true) (hT : GoodIn Ts (wsV own index C y ws)) (hw : ws = Cond.codeWith y bytes maxL ret hh :: ws') (hrc : rm.cells = mc) (hrs : rm.slots = ms)
    (hd : y.cls = C ∧ y.cls ≠ "java/lang/invoke/MethodHandle" ∧ y.cls ≠ "java/lang/invoke/VarHandle" ∧ (parseMethodDescriptor y.desc).map (fun d => d.parameters.length) = some n) (hR : rm.frames + 1 ≤ R.frames ∧ 8 + (maxL + 11) + rm.locals ≤ R.locals) :
    vx_CVW R s args own C index y bytes maxL ret hh ws rm mc ms n := by
  obtain ⟨hC, hd⟩ := hd
  subst hC
  have ok : ∀ w ∈ wsV own index y.cls y ws, w.before args s = true := fun w h => ht w (hT w h).1
  have hG : GoodIn Ts ws := fun w h => hT w (by unfold wsV; exact List.mem_append_right _ h)
  have hc : Cond.codeWith y bytes maxL ret hh ∈ ws := by rw [hw]; exact List.mem_cons_self
  refine ⟨⟨hrc, hrs, hR.1, hR.2, pay_in ht hG, hc⟩, ht _ (hG _ hc).1, ok _ (by simp [wsV]), ⟨hd.1, hd.2.1⟩, fun sig h => ?_, ok _ (by simp [wsV]), ok _ (by simp [wsV]), ok _ (by simp [wsV])⟩
  have h2 := hd.2.2
  rw [h] at h2
  exact (Option.some.inj h2).symm
theorem vx_runVW {y : MethodName} {bytes cc : ByteArray} {maxL nL mc ms n index : Nat} {ret : Option FieldType} {hh : List (Nat × Nat × Nat × Nat)} {ws : List Cond} {rm : Room} {Pc : Array Value → State → Prop} {Qc : Array Value → State → Outcome → State → Prop} {free : Addr → Prop} {Ts : List Cond} {own C : String} {b : Addr} {As rest : List Value} {g : JFrame}
    (S : CallFix p m c cc nL s args Ts own) (hM : Met l y ws rm Pc Qc mc ms free) (cw : vx_CVW R s args own C index y bytes maxL ret hh ws rm mc ms n) (hp : PreV s H C b Pc As)
    (hg : g.method = m) (hn : As.length = n) (hsize : g.locals.size = nL) (hstack : g.stack = As.reverse ++ .ref b :: rest) (hW : 2 * g.monitorRoom + (rest.map fun v => v.category).sum ≤ 8) (hdg : decode cc g.pc = .ok (.invokevirtual index, 3)) (hf : cells + mc ≤ R.cells ∧ slots + ms ≤ R.slots) :
    va_Run p l e R s m args below meth c H locs cells slots mc ms g rest (Qc (Value.ref b :: As).toArray) free := by
  obtain ⟨⟨hrc, hrs, hfr, hlo, hws, hcw⟩, hcode, hini, hy, hlen, hl, hin, hse⟩ := cw
  have hK : Back l R p e below s args y 3 8 (PreOf R mc ms Pc) (PostOf Qc mc ms free) := va_backW (hh := hh) (bytes := bytes) (maxL := maxL) (ret := ret) hM hp.1 hrc hrs hfr hlo hws hcw (fun a' U hW => word_at hW (Or.inl (by first | rfl | simp [Cond.onTables, Cond.keeps, Cond.steady])) hini)
  obtain ⟨hx, hb, hml, ho, -⟩ := S
  obtain ⟨-, ⟨cellB, hcB, hoB, hclB⟩, hPc⟩ := hp
  intro T hT X
  obtain ⟨v, vm₁, ⟨U', l2, c2, s2⟩, hW₁, X', ⟨g', mk, t, L, e1, e2, hq, h1, hL, h2, h3⟩, st⟩ := vx_callVW X hx (C := C) (hh := hh) (bytes := bytes) (maxL := maxL) (ret := ret) ho hl hin hse hcode hy hK (by rw [hT]; exact hcB) hoB hclB hg (hsize.trans hml.symm) (argsL := As) (rest := rest) (fun sig h => hn.trans (hlen sig h)) hstack hW (by rw [hb]; exact hdg)
    (fun vm₁ hW₁ => ⟨hf.1, hf.2, hPc (T.setVm vm₁) hT hW₁⟩)
  dsimp only [Pt.U, Pt.locs, Pt.cells, Pt.slots] at X' e1 e2 h1 h2 h3 st
  subst h1; subst h2; subst h3
  exact ⟨v, (T.setVm vm₁).calling g' mk (Value.ref b :: As).toArray, t, U', L, hT, X', hL, e1, e2, hq, st⟩
section
variable {y : MethodName} {bytes cc : ByteArray} {maxL nL mc ms n index : Nat} {ret : Option FieldType} {ws : List Cond} {rm : Room} {Pc : Array Value → State → Prop} {Qc : Array Value → State → Outcome → State → Prop} {XC : String → State → State → Prop} {free : Addr → Prop} {Ts : List Cond} {own C : String} {b : Addr} {As rest : List Value} {g : JFrame}
theorem vx_runVX {hh : List (Nat × Nat × Nat × Nat)} (S : CallFix p m c cc nL s args Ts own) (hM : vx_Met l y ws rm Pc Qc XC mc ms free) (cw : vx_CVW R s args own C index y bytes maxL ret hh ws rm mc ms n) (hp : PreV s H C b Pc As)
    (hg : g.method = m) (hn : As.length = n) (hsize : g.locals.size = nL) (hstack : g.stack = As.reverse ++ .ref b :: rest) (hW : 2 * g.monitorRoom + (rest.map fun v => v.category).sum ≤ 8) (hdg : decode cc g.pc = .ok (.invokevirtual index, 3)) (hf : cells + mc ≤ R.cells ∧ slots + ms ≤ R.slots) :
    vx_Run p l e R s m args below meth c H locs cells slots mc ms g rest (Qc (Value.ref b :: As).toArray) XC free := by
  obtain ⟨⟨hrc, hrs, hfr, hlo, hws, hcw⟩, hcode, hini, hy, hlen, hl, hin, hse⟩ := cw
  have hK : vx_Back l R p e below s args y 3 8 (PreOf R mc ms Pc) (PostOf Qc mc ms free) (vx_Post XC mc ms free) := vx_backW (hh := hh) (bytes := bytes) (maxL := maxL) (ret := ret) hM hp.1 hrc hrs hfr hlo hws hcw (fun a' U hW => word_at hW (Or.inl (by first | rfl | simp [Cond.onTables, Cond.keeps, Cond.steady])) hini)
  obtain ⟨hx, hb, hml, ho, -⟩ := S
  obtain ⟨-, ⟨cellB, hcB, hoB, hclB⟩, hPc⟩ := hp
  intro T hT X
  rcases vx_callVX X hx (C := C) (hh := hh) (bytes := bytes) (maxL := maxL) (ret := ret) ho hl hin hse hcode hy hK (by rw [hT]; exact hcB) hoB hclB hg (hsize.trans hml.symm) (argsL := As) (rest := rest) (fun sig h => hn.trans (hlen sig h)) hstack hW (by rw [hb]; exact hdg)
    (fun vm₁ hW₁ => ⟨hf.1, hf.2, hPc (T.setVm vm₁) hT hW₁⟩) with ⟨v, vm₁, ⟨U', l2, c2, s2⟩, hW₁, X', ⟨g', mk, t, L, e1, e2, hq, h1, hL, h2, h3⟩, st⟩ | ⟨q, vm₁, ⟨U', l2, c2, s2⟩, hW₁, X', ⟨g', mk, t, L, E, ce, e1, e2, hq, hce, hcv, hcl, h1, hL, h2, h3⟩, st⟩
  · dsimp only [Pt.U, Pt.locs, Pt.cells, Pt.slots] at X' e1 e2 h1 h2 h3 st
    subst h1; subst h2; subst h3
    exact Or.inl ⟨v, (T.setVm vm₁).calling g' mk (Value.ref b :: As).toArray, t, U', L, hT, X', hL, e1, e2, hq, st⟩
  · dsimp only [Pt.U, Pt.locs, Pt.cells, Pt.slots] at X' e1 e2 h1 h2 h3 st hcl
    subst h1; subst h2; subst h3
    exact Or.inr ⟨q, (T.setVm vm₁).calling g' mk (Value.ref b :: As).toArray, t, U', L, E, ce, hT, X', hL, e1, e2, hq, hce, hcv, vx_cls hW₁ hcl, st⟩
theorem vx_runSX {hh : List (Nat × Nat × Nat × Nat)} (S : CallFix p m c cc nL s args Ts own) (hM : vx_Met l y ws rm Pc Qc XC mc ms free) (cw : vx_CSW R s args own index y bytes maxL ret hh ws rm mc ms n) (hp : PreS s H Pc As)
    (hg : g.method = m) (hn : As.length = n) (hsize : g.locals.size = nL) (hstack : g.stack = As.reverse ++ rest) (hW : 2 * g.monitorRoom + (rest.map fun v => v.category).sum ≤ 8) (hdg : decode cc g.pc = .ok (.invokestatic index, 3)) (hf : cells + mc ≤ R.cells ∧ slots + ms ≤ R.slots) :
    vx_Run p l e R s m args below meth c H locs cells slots mc ms g rest (Qc As.toArray) XC free := by
  obtain ⟨⟨hrc, hrs, hfr, hlo, hws, hcw⟩, hcode, hini, hy, hlen, hl, hstt⟩ := cw
  have hK : vx_Back l R p e below s args y 3 8 (PreOf R mc ms Pc) (PostOf Qc mc ms free) (vx_Post XC mc ms free) := vx_backW (hh := hh) (bytes := bytes) (maxL := maxL) (ret := ret) hM hp.1 hrc hrs hfr hlo hws hcw (fun a' U hW => word_at hW (Or.inl (by first | rfl | simp [Cond.onTables, Cond.keeps, Cond.steady])) hini)
  obtain ⟨hx, hb, hml, ho, -⟩ := S
  intro T hT X
  rcases vx_callSX X hx (hh := hh) (bytes := bytes) (maxL := maxL) (ret := ret) ho hl hstt hini hcode hy hK hg (hsize.trans hml.symm) (argsL := As) (rest := rest) (fun sig h => hn.trans (hlen sig h)) hstack hW (by rw [hb]; exact hdg)
    (fun vm₁ hW₁ => ⟨hf.1, hf.2, hp.2 (T.setVm vm₁) hT hW₁⟩) with ⟨v, vm₁, ⟨U', l2, c2, s2⟩, hW₁, X', ⟨g', mk, t, L, e1, e2, hq, h1, hL, h2, h3⟩, st⟩ | ⟨q, vm₁, ⟨U', l2, c2, s2⟩, hW₁, X', ⟨g', mk, t, L, E, ce, e1, e2, hq, hce, hcv, hcl, h1, hL, h2, h3⟩, st⟩
  · dsimp only [Pt.U, Pt.locs, Pt.cells, Pt.slots] at X' e1 e2 h1 h2 h3 st
    subst h1; subst h2; subst h3
    exact Or.inl ⟨v, (T.setVm vm₁).calling g' mk As.toArray, t, U', L, hT, X', hL, e1, e2, hq, st⟩
  · dsimp only [Pt.U, Pt.locs, Pt.cells, Pt.slots] at X' e1 e2 h1 h2 h3 st hcl
    subst h1; subst h2; subst h3
    exact Or.inr ⟨q, (T.setVm vm₁).calling g' mk As.toArray, t, U', L, E, ce, hT, X', hL, e1, e2, hq, hce, hcv, vx_cls hW₁ hcl, st⟩
end
end VXH
theorem vx_ofWH {l : Launch} {y : MethodName} {ws ws' : List Cond} {rm : Room} {Pc : Array Value → State → Prop} {Qc : Array Value → State → Outcome → State → Prop} {XC : String → State → State → Prop} {mc ms : Nat} {free : Addr → Prop} {cc : ByteArray} {maxL : Nat} {ret : Option FieldType} {hh : List (Nat × Nat × Nat × Nat)}
    (hy : plainName y.cls = true) (hw : ws = Cond.codeWith y cc maxL ret hh :: ws')
    (body : ∀ p e s m args below meth c s₁, BodyLoose p l y (headSpec ws rm) cc maxL ret e s m args below meth c s₁ → c.maxLocals = maxL → Pc args s →
      W p l e (headSpec ws rm).room s m args below meth c s.heap [] 0 0 (vx_MQ below Qc XC args s mc ms free) (entryFrame m args maxL)) : vx_Met l y ws rm Pc Qc XC mc ms free := by
  refine MetFree.of_bodyS (code := cc) (maxLocals := maxL) (ret := ret) hy ?_ ?_
  · intro args s m h hn
    obtain ⟨m9, meth, c, hn9, h1, h2, h3, h4, -, h5, h6, -⟩ := Cond.codeWith_spec (atoms_spec (ws := ws) h _ (by rw [hw]; exact List.mem_cons_self))
    cases hn.symm.trans hn9
    exact ⟨meth, c, h1, h2, h3, h4, h5, h6⟩
  · intro p e s m args below meth c s₁ B hml hP _
    have hh0 : s₁.heap = s.heap := by rw [B.state]; rfl
    obtain ⟨t, a1, o, b1, b2, b3⟩ := body p e s m args below meth c s₁ B hml hP s₁ hh0 (Stand.of_body B)
    exact ⟨t, o, a1, b1, b2, b3⟩
/-! ===== END ===== -/
end
section
/-! names, fields, codes: as TURN printed them of the program -/
def RX0 : String := "RobotAisles$Distances"
def TX0 : u_T := fun k => match k with
  | 0 => ("RobotAisles$Distances", "house", "LRobotAisles$Warehouse;", true)
  | 1 => ("RobotAisles$Distances", "queue", "[I", true)
  | 2 => ("RobotAisles$Distances", "steps", "[I", true)
  | 3 => ("RobotAisles$Distances", "table", "[[I", true)
  | 4 => ("RobotAisles$Distances", "near", "[J", true)
  | 5 => ("RobotAisles$Distances", "wider", "[J", true)
  | 6 => ("RobotAisles$Distances", "tableRows", "I", false)
  | 7 => ("RobotAisles$Distances", "tableColumns", "I", false)
  | _ => ("RobotAisles$Distances", "tableOpen", "J", false)
def tyX0 : Nat → FieldType := fun k => match k with
  | 0 => .object "RobotAisles$Warehouse"
  | 1 => .array .int
  | 2 => .array .int
  | 3 => .array (.array .int)
  | 4 => .array .long
  | 5 => .array .long
  | 6 => .int
  | 7 => .int
  | _ => .long
abbrev wsX00 : List Cond := u_ws RX0 TX0 9
theorem nmX0 : ∀ a, a < 9 → ∀ b, b < 9 → a ≠ b → (TX0 a).2.1 ≠ (TX0 b).2.1 := by decide +kernel
theorem tyX0_ok : ∀ k, k < 9 → parseFieldDescriptor (TX0 k).2.2.1 = some (tyX0 k) := by decide +kernel
abbrev cX0_init : ByteArray := prog_2_method_1_code
def yX0_init : MethodName := ⟨RX0, "<init>", "(LRobotAisles$Warehouse;)V"⟩
abbrev cX0_between : ByteArray := prog_2_method_2_code
def yX0_between : MethodName := ⟨RX0, "between", "(II)I"⟩
abbrev cX0_stepsTo : ByteArray := prog_2_method_3_code
def yX0_stepsTo : MethodName := ⟨RX0, "stepsTo", "(I)I"⟩
abbrev cX0_measureFrom : ByteArray := prog_2_method_4_code
def yX0_measureFrom : MethodName := ⟨RX0, "measureFrom", "(I)V"⟩
abbrev cX0_countFrom : ByteArray := prog_2_method_5_code
def yX0_countFrom : MethodName := ⟨RX0, "countFrom", "(I)I"⟩
abbrev cX0_farthestFrom : ByteArray := prog_2_method_6_code
def yX0_farthestFrom : MethodName := ⟨RX0, "farthestFrom", "(I)I"⟩
abbrev cX0_bestRobotFor : ByteArray := prog_2_method_7_code
def yX0_bestRobotFor : MethodName := ⟨RX0, "bestRobotFor", "(I)I"⟩
abbrev cX0_isBetter : ByteArray := prog_2_method_8_code
def yX0_isBetter : MethodName := ⟨RX0, "isBetter", "(IIII)Z"⟩
abbrev cX0_betweenByTable : ByteArray := prog_2_method_11_code
def yX0_betweenByTable : MethodName := ⟨RX0, "betweenByTable", "(II)I"⟩
abbrev cX0_renewTable : ByteArray := prog_2_method_12_code
def yX0_renewTable : MethodName := ⟨RX0, "renewTable", "()V"⟩
abbrev cX0_openCells : ByteArray := prog_2_method_13_code
def yX0_openCells : MethodName := ⟨RX0, "openCells", "()J"⟩
abbrev cX0_fillTable : ByteArray := prog_2_method_14_code
def yX0_fillTable : MethodName := ⟨RX0, "fillTable", "()V"⟩
abbrev cX0_nearOfNeighbors : ByteArray := prog_2_method_15_code
def yX0_nearOfNeighbors : MethodName := ⟨RX0, "nearOfNeighbors", "(I)J"⟩
abbrev cX0_noteRound : ByteArray := prog_2_method_16_code
def yX0_noteRound : MethodName := ⟨RX0, "noteRound", "([IJI)V"⟩
def RX1 : String := "RobotAisles$History"
def TX1 : u_T := fun k => match k with
  | 0 => ("RobotAisles$History", "kept", "[LRobotAisles$Warehouse;", true)
  | 1 => ("RobotAisles$History", "next", "I", false)
  | _ => ("RobotAisles$History", "count", "I", false)
def tyX1 : Nat → FieldType := fun k => match k with
  | 0 => .array (.object "RobotAisles$Warehouse")
  | 1 => .int
  | _ => .int
abbrev wsX10 : List Cond := u_ws RX1 TX1 3
theorem nmX1 : ∀ a, a < 3 → ∀ b, b < 3 → a ≠ b → (TX1 a).2.1 ≠ (TX1 b).2.1 := by decide +kernel
theorem tyX1_ok : ∀ k, k < 3 → parseFieldDescriptor (TX1 k).2.2.1 = some (tyX1 k) := by decide +kernel
abbrev cX1_init : ByteArray := prog_3_method_1_code
def yX1_init : MethodName := ⟨RX1, "<init>", "()V"⟩
abbrev cX1_keep : ByteArray := prog_3_method_2_code
def yX1_keep : MethodName := ⟨RX1, "keep", "(LRobotAisles$Warehouse;)V"⟩
abbrev cX1_giveBack : ByteArray := prog_3_method_3_code
def yX1_giveBack : MethodName := ⟨RX1, "giveBack", "(LRobotAisles$Warehouse;)V"⟩
def RX2 : String := "RobotAisles$LayoutText"
def TX2 : u_T := fun k => match k with
  | 0 => ("RobotAisles$LayoutText", "characters", "[C", true)
  | 1 => ("RobotAisles$LayoutText", "length", "I", false)
  | 2 => ("RobotAisles$LayoutText", "rows", "I", false)
  | _ => ("RobotAisles$LayoutText", "columns", "I", false)
def tyX2 : Nat → FieldType := fun k => match k with
  | 0 => .array .char
  | 1 => .int
  | 2 => .int
  | _ => .int
abbrev wsX20 : List Cond := u_ws RX2 TX2 4
theorem nmX2 : ∀ a, a < 4 → ∀ b, b < 4 → a ≠ b → (TX2 a).2.1 ≠ (TX2 b).2.1 := by decide +kernel
theorem tyX2_ok : ∀ k, k < 4 → parseFieldDescriptor (TX2 k).2.2.1 = some (tyX2 k) := by decide +kernel
abbrev cX2_init : ByteArray := prog_4_method_1_code
def yX2_init : MethodName := ⟨RX2, "<init>", "()V"⟩
abbrev cX2_isFull : ByteArray := prog_4_method_2_code
def yX2_isFull : MethodName := ⟨RX2, "isFull", "()Z"⟩
abbrev cX2_take : ByteArray := prog_4_method_3_code
def yX2_take : MethodName := ⟨RX2, "take", "(C)V"⟩
abbrev cX2_findFault : ByteArray := prog_4_method_4_code
def yX2_findFault : MethodName := ⟨RX2, "findFault", "()I"⟩
abbrev cX2_canEndRow : ByteArray := prog_4_method_5_code
def yX2_canEndRow : MethodName := ⟨RX2, "canEndRow", "(I)Z"⟩
abbrev cX2_canGrowRow : ByteArray := prog_4_method_6_code
def yX2_canGrowRow : MethodName := ⟨RX2, "canGrowRow", "(I)Z"⟩
abbrev cX2_endRow : ByteArray := prog_4_method_7_code
def yX2_endRow : MethodName := ⟨RX2, "endRow", "(I)V"⟩
abbrev cX2_kindOf : ByteArray := prog_4_method_8_code
def yX2_kindOf : MethodName := ⟨RX2, "kindOf", "(C)I"⟩
def RX3 : String := "RobotAisles$Order"
def TX3 : u_T := fun k => match k with
  | 0 => ("RobotAisles$Order", "due", "I", false)
  | 1 => ("RobotAisles$Order", "lineCount", "I", false)
  | 2 => ("RobotAisles$Order", "picked", "I", false)
  | 3 => ("RobotAisles$Order", "deliveredAt", "I", false)
  | _ => ("RobotAisles$Order", "lines", "[I", true)
def tyX3 : Nat → FieldType := fun k => match k with
  | 0 => .int
  | 1 => .int
  | 2 => .int
  | 3 => .int
  | _ => .array .int
abbrev wsX30 : List Cond := u_ws RX3 TX3 5
theorem nmX3 : ∀ a, a < 5 → ∀ b, b < 5 → a ≠ b → (TX3 a).2.1 ≠ (TX3 b).2.1 := by decide +kernel
theorem tyX3_ok : ∀ k, k < 5 → parseFieldDescriptor (TX3 k).2.2.1 = some (tyX3 k) := by decide +kernel
abbrev cX3_init : ByteArray := prog_5_method_1_code
def yX3_init : MethodName := ⟨RX3, "<init>", "()V"⟩
abbrev cX3_begin : ByteArray := prog_5_method_2_code
def yX3_begin : MethodName := ⟨RX3, "begin", "(IIII)V"⟩
abbrev cX3_copyFrom : ByteArray := prog_5_method_3_code
def yX3_copyFrom : MethodName := ⟨RX3, "copyFrom", "(LRobotAisles$Order;)V"⟩
abbrev cX3_linesLeft : ByteArray := prog_5_method_4_code
def yX3_linesLeft : MethodName := ⟨RX3, "linesLeft", "()I"⟩
abbrev cX3_isNextLine : ByteArray := prog_5_method_5_code
def yX3_isNextLine : MethodName := ⟨RX3, "isNextLine", "(I)Z"⟩
def RX4 : String := "RobotAisles$Planner"
def TX4 : u_T := fun k => match k with
  | 0 => ("RobotAisles$Planner", "house", "LRobotAisles$Warehouse;", true)
  | 1 => ("RobotAisles$Planner", "queue", "[I", true)
  | 2 => ("RobotAisles$Planner", "origin", "[I", true)
  | 3 => ("RobotAisles$Planner", "taken", "[J", true)
  | 4 => ("RobotAisles$Planner", "path", "[I", true)
  | 5 => ("RobotAisles$Planner", "robot", "I", false)
  | 6 => ("RobotAisles$Planner", "goal", "I", false)
  | _ => ("RobotAisles$Planner", "goalTakenUntil", "I", false)
def tyX4 : Nat → FieldType := fun k => match k with
  | 0 => .object "RobotAisles$Warehouse"
  | 1 => .array .int
  | 2 => .array .int
  | 3 => .array .long
  | 4 => .array .int
  | 5 => .int
  | 6 => .int
  | _ => .int
abbrev wsX40 : List Cond := u_ws RX4 TX4 8
theorem nmX4 : ∀ a, a < 8 → ∀ b, b < 8 → a ≠ b → (TX4 a).2.1 ≠ (TX4 b).2.1 := by decide +kernel
theorem tyX4_ok : ∀ k, k < 8 → parseFieldDescriptor (TX4 k).2.2.1 = some (tyX4 k) := by decide +kernel
abbrev cX4_init : ByteArray := prog_6_method_1_code
def yX4_init : MethodName := ⟨RX4, "<init>", "(LRobotAisles$Warehouse;)V"⟩
abbrev cX4_findFirst : ByteArray := prog_6_method_2_code
def yX4_findFirst : MethodName := ⟨RX4, "findFirst", "(II)I"⟩
abbrev cX4_tracePath : ByteArray := prog_6_method_3_code
def yX4_tracePath : MethodName := ⟨RX4, "tracePath", "(I)V"⟩
abbrev cX4_stepsOfPath : ByteArray := prog_6_method_4_code
def yX4_stepsOfPath : MethodName := ⟨RX4, "stepsOfPath", "(I)I"⟩
abbrev cX4_findTickByTick : ByteArray := prog_6_method_5_code
def yX4_findTickByTick : MethodName := ⟨RX4, "findTickByTick", "(II)I"⟩
abbrev cX4_cellsAfter : ByteArray := prog_6_method_6_code
def yX4_cellsAfter : MethodName := ⟨RX4, "cellsAfter", "(JI)J"⟩
abbrev cX4_canComeTo : ByteArray := prog_6_method_7_code
def yX4_canComeTo : MethodName := ⟨RX4, "canComeTo", "(IJI)Z"⟩
abbrev cX4_prepare : ByteArray := prog_6_method_8_code
def yX4_prepare : MethodName := ⟨RX4, "prepare", "(II)Z"⟩
abbrev cX4_noteOther : ByteArray := prog_6_method_9_code
def yX4_noteOther : MethodName := ⟨RX4, "noteOther", "(LRobotAisles$Robot;)V"⟩
abbrev cX4_horizon : ByteArray := prog_6_method_10_code
def yX4_horizon : MethodName := ⟨RX4, "horizon", "()I"⟩
abbrev cX4_canEndAt : ByteArray := prog_6_method_11_code
def yX4_canEndAt : MethodName := ⟨RX4, "canEndAt", "(II)Z"⟩
abbrev cX4_canStep : ByteArray := prog_6_method_12_code
def yX4_canStep : MethodName := ⟨RX4, "canStep", "(III)Z"⟩
abbrev cX4_isTaken : ByteArray := prog_6_method_13_code
def yX4_isTaken : MethodName := ⟨RX4, "isTaken", "(II)Z"⟩
abbrev cX4_changesPlaces : ByteArray := prog_6_method_14_code
def yX4_changesPlaces : MethodName := ⟨RX4, "changesPlaces", "(III)Z"⟩
def RX5 : String := "RobotAisles$Robot"
def TX5 : u_T := fun k => match k with
  | 0 => ("RobotAisles$Robot", "cell", "I", false)
  | 1 => ("RobotAisles$Robot", "battery", "I", false)
  | 2 => ("RobotAisles$Robot", "order", "I", false)
  | 3 => ("RobotAisles$Robot", "steps", "I", false)
  | 4 => ("RobotAisles$Robot", "ticksLeft", "I", false)
  | 5 => ("RobotAisles$Robot", "stepCost", "I", false)
  | _ => ("RobotAisles$Robot", "path", "[I", true)
def tyX5 : Nat → FieldType := fun k => match k with
  | 0 => .int
  | 1 => .int
  | 2 => .int
  | 3 => .int
  | 4 => .int
  | 5 => .int
  | _ => .array .int
abbrev wsX50 : List Cond := u_ws RX5 TX5 7
theorem nmX5 : ∀ a, a < 7 → ∀ b, b < 7 → a ≠ b → (TX5 a).2.1 ≠ (TX5 b).2.1 := by decide +kernel
theorem tyX5_ok : ∀ k, k < 7 → parseFieldDescriptor (TX5 k).2.2.1 = some (tyX5 k) := by decide +kernel
abbrev cX5_init : ByteArray := prog_7_method_1_code
def yX5_init : MethodName := ⟨RX5, "<init>", "()V"⟩
abbrev cX5_begin : ByteArray := prog_7_method_2_code
def yX5_begin : MethodName := ⟨RX5, "begin", "(II)V"⟩
abbrev cX5_copyFrom : ByteArray := prog_7_method_3_code
def yX5_copyFrom : MethodName := ⟨RX5, "copyFrom", "(LRobotAisles$Robot;)V"⟩
abbrev cX5_follow : ByteArray := prog_7_method_4_code
def yX5_follow : MethodName := ⟨RX5, "follow", "([III)V"⟩
abbrev cX5_cellAhead : ByteArray := prog_7_method_5_code
def yX5_cellAhead : MethodName := ⟨RX5, "cellAhead", "(I)I"⟩
abbrev cX5_lastCell : ByteArray := prog_7_method_6_code
def yX5_lastCell : MethodName := ⟨RX5, "lastCell", "()I"⟩
abbrev cX5_isEverIn : ByteArray := prog_7_method_7_code
def yX5_isEverIn : MethodName := ⟨RX5, "isEverIn", "(I)Z"⟩
abbrev cX5_lastTickIn : ByteArray := prog_7_method_8_code
def yX5_lastTickIn : MethodName := ⟨RX5, "lastTickIn", "(I)I"⟩
abbrev cX5_goOn : ByteArray := prog_7_method_9_code
def yX5_goOn : MethodName := ⟨RX5, "goOn", "()V"⟩
abbrev cX5_charge : ByteArray := prog_7_method_10_code
def yX5_charge : MethodName := ⟨RX5, "charge", "(I)V"⟩
def RX6 : String := "RobotAisles$Warehouse"
def TX6 : u_T := fun k => match k with
  | 0 => ("RobotAisles$Warehouse", "rows", "I", false)
  | 1 => ("RobotAisles$Warehouse", "columns", "I", false)
  | 2 => ("RobotAisles$Warehouse", "now", "I", false)
  | 3 => ("RobotAisles$Warehouse", "robotCount", "I", false)
  | 4 => ("RobotAisles$Warehouse", "orderCount", "I", false)
  | 5 => ("RobotAisles$Warehouse", "kinds", "[I", true)
  | 6 => ("RobotAisles$Warehouse", "closed", "[Z", true)
  | 7 => ("RobotAisles$Warehouse", "robots", "[LRobotAisles$Robot;", true)
  | 8 => ("RobotAisles$Warehouse", "orders", "[LRobotAisles$Order;", true)
  | _ => ("RobotAisles$Warehouse", "settings", "[I", true)
def tyX6 : Nat → FieldType := fun k => match k with
  | 0 => .int
  | 1 => .int
  | 2 => .int
  | 3 => .int
  | 4 => .int
  | 5 => .array .int
  | 6 => .array .boolean
  | 7 => .array (.object "RobotAisles$Robot")
  | 8 => .array (.object "RobotAisles$Order")
  | _ => .array .int
abbrev wsX60 : List Cond := u_ws RX6 TX6 10
theorem nmX6 : ∀ a, a < 10 → ∀ b, b < 10 → a ≠ b → (TX6 a).2.1 ≠ (TX6 b).2.1 := by decide +kernel
theorem tyX6_ok : ∀ k, k < 10 → parseFieldDescriptor (TX6 k).2.2.1 = some (tyX6 k) := by decide +kernel
abbrev cX6_init : ByteArray := prog_8_method_1_code
def yX6_init : MethodName := ⟨RX6, "<init>", "()V"⟩
abbrev cX6_copyFrom : ByteArray := prog_8_method_2_code
def yX6_copyFrom : MethodName := ⟨RX6, "copyFrom", "(LRobotAisles$Warehouse;)V"⟩
abbrev cX6_rebuild : ByteArray := prog_8_method_3_code
def yX6_rebuild : MethodName := ⟨RX6, "rebuild", "(LRobotAisles$LayoutText;)V"⟩
abbrev cX6_cellCount : ByteArray := prog_8_method_4_code
def yX6_cellCount : MethodName := ⟨RX6, "cellCount", "()I"⟩
abbrev cX6_isCell : ByteArray := prog_8_method_5_code
def yX6_isCell : MethodName := ⟨RX6, "isCell", "(I)Z"⟩
abbrev cX6_isCellOrNone : ByteArray := prog_8_method_6_code
def yX6_isCellOrNone : MethodName := ⟨RX6, "isCellOrNone", "(I)Z"⟩
abbrev cX6_isRobot : ByteArray := prog_8_method_7_code
def yX6_isRobot : MethodName := ⟨RX6, "isRobot", "(I)Z"⟩
abbrev cX6_isOrder : ByteArray := prog_8_method_8_code
def yX6_isOrder : MethodName := ⟨RX6, "isOrder", "(I)Z"⟩
abbrev cX6_canEnter : ByteArray := prog_8_method_9_code
def yX6_canEnter : MethodName := ⟨RX6, "canEnter", "(I)Z"⟩
abbrev cX6_neighbor : ByteArray := prog_8_method_10_code
def yX6_neighbor : MethodName := ⟨RX6, "neighbor", "(II)I"⟩
abbrev cX6_columnOf : ByteArray := prog_8_method_11_code
def yX6_columnOf : MethodName := ⟨RX6, "columnOf", "(I)I"⟩
abbrev cX6_enteredNeighbors : ByteArray := prog_8_method_12_code
def yX6_enteredNeighbors : MethodName := ⟨RX6, "enteredNeighbors", "(I)I"⟩
abbrev cX6_closedCount : ByteArray := prog_8_method_13_code
def yX6_closedCount : MethodName := ⟨RX6, "closedCount", "()I"⟩
abbrev cX6_putRobot : ByteArray := prog_8_method_14_code
def yX6_putRobot : MethodName := ⟨RX6, "putRobot", "(II)I"⟩
abbrev cX6_dropRobot : ByteArray := prog_8_method_15_code
def yX6_dropRobot : MethodName := ⟨RX6, "dropRobot", "(I)V"⟩
abbrev cX6_putOrder : ByteArray := prog_8_method_16_code
def yX6_putOrder : MethodName := ⟨RX6, "putOrder", "(IIII)I"⟩
abbrev cX6_freeRobot : ByteArray := prog_8_method_17_code
def yX6_freeRobot : MethodName := ⟨RX6, "freeRobot", "(I)I"⟩
abbrev cX6_robotThere : ByteArray := prog_8_method_18_code
def yX6_robotThere : MethodName := ⟨RX6, "robotThere", "(II)I"⟩
abbrev cX6_lowestRobotEverIn : ByteArray := prog_8_method_19_code
def yX6_lowestRobotEverIn : MethodName := ⟨RX6, "lowestRobotEverIn", "(II)I"⟩
abbrev cX6_robotWith : ByteArray := prog_8_method_20_code
def yX6_robotWith : MethodName := ⟨RX6, "robotWith", "(I)I"⟩
abbrev cX6_stateOf : ByteArray := prog_8_method_21_code
def yX6_stateOf : MethodName := ⟨RX6, "stateOf", "(I)I"⟩
abbrev cX6_ordersIn : ByteArray := prog_8_method_22_code
def yX6_ordersIn : MethodName := ⟨RX6, "ordersIn", "(I)I"⟩
abbrev cX6_waitingOrder : ByteArray := prog_8_method_23_code
def yX6_waitingOrder : MethodName := ⟨RX6, "waitingOrder", "(I)I"⟩
abbrev cX6_waitingBefore : ByteArray := prog_8_method_24_code
def yX6_waitingBefore : MethodName := ⟨RX6, "waitingBefore", "(I)I"⟩
abbrev cX6_isRankedBefore : ByteArray := prog_8_method_25_code
def yX6_isRankedBefore : MethodName := ⟨RX6, "isRankedBefore", "(II)Z"⟩
abbrev cX6_isLoaded : ByteArray := prog_8_method_26_code
def yX6_isLoaded : MethodName := ⟨RX6, "isLoaded", "(I)Z"⟩
abbrev cX6_stepCost : ByteArray := prog_8_method_27_code
def yX6_stepCost : MethodName := ⟨RX6, "stepCost", "(I)I"⟩
abbrev cX6_loadedCount : ByteArray := prog_8_method_28_code
def yX6_loadedCount : MethodName := ⟨RX6, "loadedCount", "()I"⟩
abbrev cX6_stepSum : ByteArray := prog_8_method_29_code
def yX6_stepSum : MethodName := ⟨RX6, "stepSum", "()I"⟩
abbrev cX6_batterySum : ByteArray := prog_8_method_30_code
def yX6_batterySum : MethodName := ⟨RX6, "batterySum", "()I"⟩
abbrev cX6_pickedSum : ByteArray := prog_8_method_31_code
def yX6_pickedSum : MethodName := ⟨RX6, "pickedSum", "()I"⟩
abbrev cX6_latenessSum : ByteArray := prog_8_method_32_code
def yX6_latenessSum : MethodName := ⟨RX6, "latenessSum", "()I"⟩
abbrev cX6_tick : ByteArray := prog_8_method_33_code
def yX6_tick : MethodName := ⟨RX6, "tick", "()I"⟩
abbrev cX6_endPlan : ByteArray := prog_8_method_34_code
def yX6_endPlan : MethodName := ⟨RX6, "endPlan", "(LRobotAisles$Robot;)I"⟩
def RX7 : String := "RobotAisles"
def TX7 : u_T := fun k => match k with
  | 0 => ("RobotAisles", "house", "LRobotAisles$Warehouse;", true)
  | 1 => ("RobotAisles", "snapshot", "LRobotAisles$Warehouse;", true)
  | 2 => ("RobotAisles", "history", "LRobotAisles$History;", true)
  | 3 => ("RobotAisles", "text", "LRobotAisles$LayoutText;", true)
  | 4 => ("RobotAisles", "distances", "LRobotAisles$Distances;", true)
  | 5 => ("RobotAisles", "planner", "LRobotAisles$Planner;", true)
  | 6 => ("RobotAisles", "hasSnapshot", "Z", false)
  | 7 => ("RobotAisles", "fault", "I", false)
  | 8 => ("RobotAisles", "keptReason", "I", false)
  | _ => ("RobotAisles", "keptDetail", "I", false)
def tyX7 : Nat → FieldType := fun k => match k with
  | 0 => .object "RobotAisles$Warehouse"
  | 1 => .object "RobotAisles$Warehouse"
  | 2 => .object "RobotAisles$History"
  | 3 => .object "RobotAisles$LayoutText"
  | 4 => .object "RobotAisles$Distances"
  | 5 => .object "RobotAisles$Planner"
  | 6 => .boolean
  | 7 => .int
  | 8 => .int
  | _ => .int
abbrev wsX70 : List Cond := u_ws RX7 TX7 10
theorem nmX7 : ∀ a, a < 10 → ∀ b, b < 10 → a ≠ b → (TX7 a).2.1 ≠ (TX7 b).2.1 := by decide +kernel
theorem tyX7_ok : ∀ k, k < 10 → parseFieldDescriptor (TX7 k).2.2.1 = some (tyX7 k) := by decide +kernel
abbrev cX7_init : ByteArray := prog_1_method_1_code
def yX7_init : MethodName := ⟨RX7, "<init>", "()V"⟩
abbrev cX7_append : ByteArray := prog_1_method_2_code
def yX7_append : MethodName := ⟨RX7, "append", "(C)I"⟩
abbrev cX7_layout : ByteArray := prog_1_method_3_code
def yX7_layout : MethodName := ⟨RX7, "layout", "()I"⟩
abbrev cX7_add : ByteArray := prog_1_method_5_code
def yX7_add : MethodName := ⟨RX7, "add", "(II)I"⟩
abbrev cX7_refusesAdd : ByteArray := prog_1_method_6_code
def yX7_refusesAdd : MethodName := ⟨RX7, "refusesAdd", "(II)Z"⟩
abbrev cX7_takeOff : ByteArray := prog_1_method_7_code
def yX7_takeOff : MethodName := ⟨RX7, "takeOff", "(I)I"⟩
abbrev cX7_refusesTakeOff : ByteArray := prog_1_method_8_code
def yX7_refusesTakeOff : MethodName := ⟨RX7, "refusesTakeOff", "(I)Z"⟩
abbrev cX7_order : ByteArray := prog_1_method_9_code
def yX7_order : MethodName := ⟨RX7, "order", "(IIII)I"⟩
abbrev cX7_refusesOrder : ByteArray := prog_1_method_10_code
def yX7_refusesOrder : MethodName := ⟨RX7, "refusesOrder", "(IIII)Z"⟩
abbrev cX7_refusesLine : ByteArray := prog_1_method_11_code
def yX7_refusesLine : MethodName := ⟨RX7, "refusesLine", "(I)Z"⟩
abbrev cX7_assign : ByteArray := prog_1_method_12_code
def yX7_assign : MethodName := ⟨RX7, "assign", "(II)I"⟩
abbrev cX7_refusesAssign : ByteArray := prog_1_method_13_code
def yX7_refusesAssign : MethodName := ⟨RX7, "refusesAssign", "(II)Z"⟩
abbrev cX7_release : ByteArray := prog_1_method_14_code
def yX7_release : MethodName := ⟨RX7, "release", "(I)I"⟩
abbrev cX7_refusesRelease : ByteArray := prog_1_method_15_code
def yX7_refusesRelease : MethodName := ⟨RX7, "refusesRelease", "(I)Z"⟩
abbrev cX7_close : ByteArray := prog_1_method_16_code
def yX7_close : MethodName := ⟨RX7, "close", "(I)I"⟩
abbrev cX7_refusesClose : ByteArray := prog_1_method_17_code
def yX7_refusesClose : MethodName := ⟨RX7, "refusesClose", "(I)Z"⟩
abbrev cX7_open : ByteArray := prog_1_method_18_code
def yX7_open : MethodName := ⟨RX7, "open", "(I)I"⟩
abbrev cX7_refusesOpen : ByteArray := prog_1_method_19_code
def yX7_refusesOpen : MethodName := ⟨RX7, "refusesOpen", "(I)Z"⟩
abbrev cX7_set : ByteArray := prog_1_method_20_code
def yX7_set : MethodName := ⟨RX7, "set", "(II)I"⟩
abbrev cX7_refusesSet : ByteArray := prog_1_method_21_code
def yX7_refusesSet : MethodName := ⟨RX7, "refusesSet", "(II)Z"⟩
abbrev cX7_plan : ByteArray := prog_1_method_22_code
def yX7_plan : MethodName := ⟨RX7, "plan", "(II)I"⟩
abbrev cX7_refusesGoal : ByteArray := prog_1_method_23_code
def yX7_refusesGoal : MethodName := ⟨RX7, "refusesGoal", "(II)Z"⟩
abbrev cX7_refusesFound : ByteArray := prog_1_method_24_code
def yX7_refusesFound : MethodName := ⟨RX7, "refusesFound", "(II)Z"⟩
abbrev cX7_cancel : ByteArray := prog_1_method_25_code
def yX7_cancel : MethodName := ⟨RX7, "cancel", "(I)I"⟩
abbrev cX7_refusesCancel : ByteArray := prog_1_method_26_code
def yX7_refusesCancel : MethodName := ⟨RX7, "refusesCancel", "(I)Z"⟩
abbrev cX7_pass : ByteArray := prog_1_method_27_code
def yX7_pass : MethodName := ⟨RX7, "pass", "(I)I"⟩
abbrev cX7_refusesPass : ByteArray := prog_1_method_28_code
def yX7_refusesPass : MethodName := ⟨RX7, "refusesPass", "(I)Z"⟩
abbrev cX7_cell : ByteArray := prog_1_method_29_code
def yX7_cell : MethodName := ⟨RX7, "cell", "(II)I"⟩
abbrev cX7_letter : ByteArray := prog_1_method_30_code
def yX7_letter : MethodName := ⟨RX7, "letter", "(I)C"⟩
abbrev cX7_distance : ByteArray := prog_1_method_31_code
def yX7_distance : MethodName := ⟨RX7, "distance", "(II)I"⟩
abbrev cX7_distanceAgain : ByteArray := prog_1_method_32_code
def yX7_distanceAgain : MethodName := ⟨RX7, "distanceAgain", "(II)I"⟩
abbrev cX7_reach : ByteArray := prog_1_method_33_code
def yX7_reach : MethodName := ⟨RX7, "reach", "(I)I"⟩
abbrev cX7_farthest : ByteArray := prog_1_method_34_code
def yX7_farthest : MethodName := ⟨RX7, "farthest", "(I)I"⟩
abbrev cX7_robotOf : ByteArray := prog_1_method_35_code
def yX7_robotOf : MethodName := ⟨RX7, "robotOf", "(II)I"⟩
abbrev cX7_planned : ByteArray := prog_1_method_36_code
def yX7_planned : MethodName := ⟨RX7, "planned", "(II)I"⟩
abbrev cX7_reserved : ByteArray := prog_1_method_37_code
def yX7_reserved : MethodName := ⟨RX7, "reserved", "(II)I"⟩
abbrev cX7_arrival : ByteArray := prog_1_method_38_code
def yX7_arrival : MethodName := ⟨RX7, "arrival", "(II)I"⟩
abbrev cX7_arrivalAgain : ByteArray := prog_1_method_39_code
def yX7_arrivalAgain : MethodName := ⟨RX7, "arrivalAgain", "(II)I"⟩
abbrev cX7_orderOf : ByteArray := prog_1_method_40_code
def yX7_orderOf : MethodName := ⟨RX7, "orderOf", "(II)I"⟩
abbrev cX7_line : ByteArray := prog_1_method_41_code
def yX7_line : MethodName := ⟨RX7, "line", "(II)I"⟩
abbrev cX7_waiting : ByteArray := prog_1_method_42_code
def yX7_waiting : MethodName := ⟨RX7, "waiting", "(I)I"⟩
abbrev cX7_suited : ByteArray := prog_1_method_43_code
def yX7_suited : MethodName := ⟨RX7, "suited", "(I)I"⟩
abbrev cX7_loaded : ByteArray := prog_1_method_45_code
def yX7_loaded : MethodName := ⟨RX7, "loaded", "()F"⟩
abbrev cX7_lateness : ByteArray := prog_1_method_46_code
def yX7_lateness : MethodName := ⟨RX7, "lateness", "()D"⟩
abbrev cX7_reason : ByteArray := prog_1_method_47_code
def yX7_reason : MethodName := ⟨RX7, "reason", "(Z)I"⟩
abbrev cX7_account : ByteArray := prog_1_method_48_code
def yX7_account : MethodName := ⟨RX7, "account", "(I)I"⟩
abbrev cX7_undo : ByteArray := prog_1_method_49_code
def yX7_undo : MethodName := ⟨RX7, "undo", "()I"⟩
abbrev cX7_refusesRobotsCell : ByteArray := prog_1_method_52_code
def yX7_refusesRobotsCell : MethodName := ⟨RX7, "refusesRobotsCell", "(II)Z"⟩
abbrev cX7_refuse : ByteArray := prog_1_method_53_code
def yX7_refuse : MethodName := ⟨RX7, "refuse", "(II)Z"⟩
abbrev cX7_signOf : ByteArray := prog_1_method_54_code
def yX7_signOf : MethodName := ⟨RX7, "signOf", "(I)C"⟩
def RJ5 : String := "java/lang/AbstractStringBuilder"
def TJ5 : u_T := fun k => match k with
  | _ => ("", "", "", false)
def tyJ5 : Nat → FieldType := fun k => match k with
  | _ => .int
abbrev wsJ50 : List Cond := u_ws RJ5 TJ5 0
theorem nmJ5 : ∀ a, a < 0 → ∀ b, b < 0 → a ≠ b → (TJ5 a).2.1 ≠ (TJ5 b).2.1 := by decide +kernel
theorem tyJ5_ok : ∀ k, k < 0 → parseFieldDescriptor (TJ5 k).2.2.1 = some (tyJ5 k) := by decide +kernel
abbrev cJ5_init_d00df : ByteArray := prog_12_method_2_code
def yJ5_init_d00df : MethodName := ⟨RJ5, "<init>", "(I)V"⟩
abbrev cJ5_length_8abf5 : ByteArray := prog_12_method_6_code
def yJ5_length_8abf5 : MethodName := ⟨RJ5, "length", "()I"⟩
abbrev cJ5_ensureCapacityInternal_d00df : ByteArray := prog_12_method_9_code
def yJ5_ensureCapacityInternal_d00df : MethodName := ⟨RJ5, "ensureCapacityInternal", "(I)V"⟩
abbrev cJ5_newCapacity_0f7a4 : ByteArray := prog_12_method_10_code
def yJ5_newCapacity_0f7a4 : MethodName := ⟨RJ5, "newCapacity", "(I)I"⟩
abbrev cJ5_inflate_da8c8 : ByteArray := prog_12_method_11_code
def yJ5_inflate_da8c8 : MethodName := ⟨RJ5, "inflate", "()V"⟩
abbrev cJ5_append_cf1ce : ByteArray := prog_12_method_22_code
def yJ5_append_cf1ce : MethodName := ⟨RJ5, "append", "(Ljava/lang/String;)Ljava/lang/AbstractStringBuilder;"⟩
abbrev cJ5_appendNull_278bc : ByteArray := prog_12_method_26_code
def yJ5_appendNull_278bc : MethodName := ⟨RJ5, "appendNull", "()Ljava/lang/AbstractStringBuilder;"⟩
abbrev cJ5_append_c97b9 : ByteArray := prog_12_method_32_code
def yJ5_append_c97b9 : MethodName := ⟨RJ5, "append", "(I)Ljava/lang/AbstractStringBuilder;"⟩
abbrev cJ5_getValue_6d5f1 : ByteArray := prog_12_method_64_code
def yJ5_getValue_6d5f1 : MethodName := ⟨RJ5, "getValue", "()[B"⟩
abbrev cJ5_isLatin1_aae02 : ByteArray := prog_12_method_68_code
def yJ5_isLatin1_aae02 : MethodName := ⟨RJ5, "isLatin1", "()Z"⟩
abbrev cJ5_inflateIfNeededFor_a7421 : ByteArray := prog_12_method_71_code
def yJ5_inflateIfNeededFor_a7421 : MethodName := ⟨RJ5, "inflateIfNeededFor", "(Ljava/lang/String;)V"⟩
abbrev cJ5_putStringAt_47b60 : ByteArray := prog_12_method_73_code
def yJ5_putStringAt_47b60 : MethodName := ⟨RJ5, "putStringAt", "(ILjava/lang/String;)V"⟩
def RJ9 : String := "java/lang/Math"
def TJ9 : u_T := fun k => match k with
  | _ => ("", "", "", false)
def tyJ9 : Nat → FieldType := fun k => match k with
  | _ => .int
abbrev wsJ90 : List Cond := u_ws RJ9 TJ9 0
theorem nmJ9 : ∀ a, a < 0 → ∀ b, b < 0 → a ≠ b → (TJ9 a).2.1 ≠ (TJ9 b).2.1 := by decide +kernel
theorem tyJ9_ok : ∀ k, k < 0 → parseFieldDescriptor (TJ9 k).2.2.1 = some (tyJ9 k) := by decide +kernel
abbrev cJ9_max_7cf53 : ByteArray := prog_24_method_65_code
def yJ9_max_7cf53 : MethodName := ⟨RJ9, "max", "(II)I"⟩
abbrev cJ9_min_7cf53 : ByteArray := prog_24_method_69_code
def yJ9_min_7cf53 : MethodName := ⟨RJ9, "min", "(II)I"⟩
def RJ0 : String := "java/lang/String"
def TJ0 : u_T := fun k => match k with
  | 0 => ("java/lang/String", "value", "[B", true)
  | 1 => ("java/lang/String", "coder", "B", true)
  | 2 => ("java/lang/String", "hash", "I", false)
  | _ => ("java/lang/String", "hashIsZero", "Z", false)
def tyJ0 : Nat → FieldType := fun k => match k with
  | 0 => .array .byte
  | 1 => .byte
  | 2 => .int
  | _ => .boolean
abbrev wsJ00 : List Cond := u_ws RJ0 TJ0 4
theorem nmJ0 : ∀ a, a < 4 → ∀ b, b < 4 → a ≠ b → (TJ0 a).2.1 ≠ (TJ0 b).2.1 := by decide +kernel
theorem tyJ0_ok : ∀ k, k < 4 → parseFieldDescriptor (TJ0 k).2.2.1 = some (tyJ0 k) := by decide +kernel
abbrev cJ0_init_81219 : ByteArray := prog_27_method_53_code
def yJ0_init_81219 : MethodName := ⟨RJ0, "<init>", "(Ljava/lang/StringBuilder;)V"⟩
abbrev cJ0_length_8abf5 : ByteArray := prog_27_method_54_code
def yJ0_length_8abf5 : MethodName := ⟨RJ0, "length", "()I"⟩
abbrev cJ0_charAt_5068e : ByteArray := prog_27_method_56_code
def yJ0_charAt_5068e : MethodName := ⟨RJ0, "charAt", "(I)C"⟩
abbrev cJ0_getBytes_840e7 : ByteArray := prog_27_method_147_code
def yJ0_getBytes_840e7 : MethodName := ⟨RJ0, "getBytes", "([BIB)V"⟩
abbrev cJ0_init_db425 : ByteArray := prog_27_method_150_code
def yJ0_init_db425 : MethodName := ⟨RJ0, "<init>", "(Ljava/lang/AbstractStringBuilder;Ljava/lang/Void;)V"⟩
abbrev cJ0_coder_7d493 : ByteArray := prog_27_method_152_code
def yJ0_coder_7d493 : MethodName := ⟨RJ0, "coder", "()B"⟩
abbrev cJ0_isLatin1_aae02 : ByteArray := prog_27_method_154_code
def yJ0_isLatin1_aae02 : MethodName := ⟨RJ0, "isLatin1", "()Z"⟩
abbrev cJ0_checkIndex_df160 : ByteArray := prog_27_method_155_code
def yJ0_checkIndex_df160 : MethodName := ⟨RJ0, "checkIndex", "(II)V"⟩
abbrev cJ0_checkBoundsOffCount_cabcc : ByteArray := prog_27_method_157_code
def yJ0_checkBoundsOffCount_cabcc : MethodName := ⟨RJ0, "checkBoundsOffCount", "(III)I"⟩
abbrev cJ0_checkBoundsBeginEnd_23922 : ByteArray := prog_27_method_158_code
def yJ0_checkBoundsBeginEnd_23922 : MethodName := ⟨RJ0, "checkBoundsBeginEnd", "(III)V"⟩
def RJ4 : String := "java/lang/StringBuilder"
def TJ4 : u_T := fun k => match k with
  | 0 => ("java/lang/AbstractStringBuilder", "value", "[B", false)
  | 1 => ("java/lang/AbstractStringBuilder", "coder", "B", false)
  | 2 => ("java/lang/AbstractStringBuilder", "maybeLatin1", "Z", false)
  | _ => ("java/lang/AbstractStringBuilder", "count", "I", false)
def tyJ4 : Nat → FieldType := fun k => match k with
  | 0 => .array .byte
  | 1 => .byte
  | 2 => .boolean
  | _ => .int
abbrev wsJ40 : List Cond := u_ws RJ4 TJ4 4
theorem nmJ4 : ∀ a, a < 4 → ∀ b, b < 4 → a ≠ b → (TJ4 a).2.1 ≠ (TJ4 b).2.1 := by decide +kernel
theorem tyJ4_ok : ∀ k, k < 4 → parseFieldDescriptor (TJ4 k).2.2.1 = some (tyJ4 k) := by decide +kernel
abbrev cJ4_init_da8c8 : ByteArray := prog_28_method_1_code
def yJ4_init_da8c8 : MethodName := ⟨RJ4, "<init>", "()V"⟩
abbrev cJ4_append_15ec4 : ByteArray := prog_28_method_7_code
def yJ4_append_15ec4 : MethodName := ⟨RJ4, "append", "(Ljava/lang/String;)Ljava/lang/StringBuilder;"⟩
abbrev cJ4_append_bf812 : ByteArray := prog_28_method_15_code
def yJ4_append_bf812 : MethodName := ⟨RJ4, "append", "(I)Ljava/lang/StringBuilder;"⟩
abbrev cJ4_toString_0e30d : ByteArray := prog_28_method_42_code
def yJ4_toString_0e30d : MethodName := ⟨RJ4, "toString", "()Ljava/lang/String;"⟩
abbrev cJ4_length_8abf5 : ByteArray := prog_28_method_93_code
def yJ4_length_8abf5 : MethodName := ⟨RJ4, "length", "()I"⟩
def RJ1 : String := "java/lang/StringLatin1"
def TJ1 : u_T := fun k => match k with
  | _ => ("", "", "", false)
def tyJ1 : Nat → FieldType := fun k => match k with
  | _ => .int
abbrev wsJ10 : List Cond := u_ws RJ1 TJ1 0
theorem nmJ1 : ∀ a, a < 0 → ∀ b, b < 0 → a ≠ b → (TJ1 a).2.1 ≠ (TJ1 b).2.1 := by decide +kernel
theorem tyJ1_ok : ∀ k, k < 0 → parseFieldDescriptor (TJ1 k).2.2.1 = some (tyJ1 k) := by decide +kernel
abbrev cJ1_charAt_3b067 : ByteArray := prog_29_method_2_code
def yJ1_charAt_3b067 : MethodName := ⟨RJ1, "charAt", "([BI)C"⟩
abbrev cJ1_inflate_0e8fd : ByteArray := prog_29_method_50_code
def yJ1_inflate_0e8fd : MethodName := ⟨RJ1, "inflate", "([BI[BII)V"⟩
def RJ7 : String := "java/util/Arrays"
def TJ7 : u_T := fun k => match k with
  | _ => ("", "", "", false)
def tyJ7 : Nat → FieldType := fun k => match k with
  | _ => .int
abbrev wsJ70 : List Cond := u_ws RJ7 TJ7 0
theorem nmJ7 : ∀ a, a < 0 → ∀ b, b < 0 → a ≠ b → (TJ7 a).2.1 ≠ (TJ7 b).2.1 := by decide +kernel
theorem tyJ7_ok : ∀ k, k < 0 → parseFieldDescriptor (TJ7 k).2.2.1 = some (tyJ7 k) := by decide +kernel
abbrev cJ7_fill_d0a16 : ByteArray := prog_36_method_101_code
def yJ7_fill_d0a16 : MethodName := ⟨RJ7, "fill", "([JJ)V"⟩
abbrev cJ7_fill_53178 : ByteArray := prog_36_method_103_code
def yJ7_fill_53178 : MethodName := ⟨RJ7, "fill", "([II)V"⟩
abbrev cJ7_copyOf_9075b : ByteArray := prog_36_method_121_code
def yJ7_copyOf_9075b : MethodName := ⟨RJ7, "copyOf", "([BI)[B"⟩
abbrev cJ7_checkLength_df160 : ByteArray := prog_36_method_131_code
def yJ7_checkLength_df160 : MethodName := ⟨RJ7, "checkLength", "(II)V"⟩
abbrev cJ7_copyOfRange_39247 : ByteArray := prog_36_method_132_code
def yJ7_copyOfRange_39247 : MethodName := ⟨RJ7, "copyOfRange", "([BII)[B"⟩
abbrev cJ7_copyOfRangeByte_39247 : ByteArray := prog_36_method_133_code
def yJ7_copyOfRangeByte_39247 : MethodName := ⟨RJ7, "copyOfRangeByte", "([BII)[B"⟩
def RJ8 : String := "jdk/internal/util/ArraysSupport"
def TJ8 : u_T := fun k => match k with
  | _ => ("", "", "", false)
def tyJ8 : Nat → FieldType := fun k => match k with
  | _ => .int
abbrev wsJ80 : List Cond := u_ws RJ8 TJ8 0
theorem nmJ8 : ∀ a, a < 0 → ∀ b, b < 0 → a ≠ b → (TJ8 a).2.1 ≠ (TJ8 b).2.1 := by decide +kernel
theorem tyJ8_ok : ∀ k, k < 0 → parseFieldDescriptor (TJ8 k).2.2.1 = some (tyJ8 k) := by decide +kernel
abbrev cJ8_newLength_cabcc : ByteArray := prog_38_method_27_code
def yJ8_newLength_cabcc : MethodName := ⟨RJ8, "newLength", "(III)I"⟩
abbrev cJ8_hugeLength_7cf53 : ByteArray := prog_38_method_28_code
def yJ8_hugeLength_7cf53 : MethodName := ⟨RJ8, "hugeLength", "(II)I"⟩
def RJ3 : String := "jdk/internal/util/Preconditions"
def TJ3 : u_T := fun k => match k with
  | _ => ("", "", "", false)
def tyJ3 : Nat → FieldType := fun k => match k with
  | _ => .int
abbrev wsJ30 : List Cond := u_ws RJ3 TJ3 0
theorem nmJ3 : ∀ a, a < 0 → ∀ b, b < 0 → a ≠ b → (TJ3 a).2.1 ≠ (TJ3 b).2.1 := by decide +kernel
theorem tyJ3_ok : ∀ k, k < 0 → parseFieldDescriptor (TJ3 k).2.2.1 = some (tyJ3 k) := by decide +kernel
abbrev cJ3_checkIndex_8e157 : ByteArray := prog_39_method_11_code
def yJ3_checkIndex_8e157 : MethodName := ⟨RJ3, "checkIndex", "(IILjava/util/function/BiFunction;)I"⟩
abbrev cJ3_checkFromToIndex_8c36e : ByteArray := prog_39_method_12_code
def yJ3_checkFromToIndex_8c36e : MethodName := ⟨RJ3, "checkFromToIndex", "(IIILjava/util/function/BiFunction;)I"⟩
abbrev cJ3_checkFromIndexSize_8c36e : ByteArray := prog_39_method_13_code
def yJ3_checkFromIndexSize_8c36e : MethodName := ⟨RJ3, "checkFromIndexSize", "(IIILjava/util/function/BiFunction;)I"⟩
def RL : String := "RobotAislesLaw"
abbrev cL_cell : ByteArray := method_2_code
def yL_cell : MethodName := ⟨RL, "cell", "([II)I"⟩
abbrev cL_append : ByteArray := method_3_code
def yL_append : MethodName := ⟨RL, "append", "(LRobotAisles;C)I"⟩
abbrev cL_layout : ByteArray := method_4_code
def yL_layout : MethodName := ⟨RL, "layout", "(LRobotAisles;)I"⟩
abbrev cL_layout_ : ByteArray := method_5_code
def yL_layout_ : MethodName := ⟨RL, "layout", "(LRobotAisles;Ljava/lang/String;)I"⟩
abbrev cL_add : ByteArray := method_6_code
def yL_add : MethodName := ⟨RL, "add", "(LRobotAisles;II)I"⟩
abbrev cL_takeOff : ByteArray := method_7_code
def yL_takeOff : MethodName := ⟨RL, "takeOff", "(LRobotAisles;I)I"⟩
abbrev cL_order : ByteArray := method_8_code
def yL_order : MethodName := ⟨RL, "order", "(LRobotAisles;IIII)I"⟩
abbrev cL_assign : ByteArray := method_9_code
def yL_assign : MethodName := ⟨RL, "assign", "(LRobotAisles;II)I"⟩
abbrev cL_release : ByteArray := method_10_code
def yL_release : MethodName := ⟨RL, "release", "(LRobotAisles;I)I"⟩
abbrev cL_close : ByteArray := method_11_code
def yL_close : MethodName := ⟨RL, "close", "(LRobotAisles;I)I"⟩
abbrev cL_open : ByteArray := method_12_code
def yL_open : MethodName := ⟨RL, "open", "(LRobotAisles;I)I"⟩
abbrev cL_set : ByteArray := method_13_code
def yL_set : MethodName := ⟨RL, "set", "(LRobotAisles;II)I"⟩
abbrev cL_plan : ByteArray := method_14_code
def yL_plan : MethodName := ⟨RL, "plan", "(LRobotAisles;II)I"⟩
abbrev cL_cancel : ByteArray := method_15_code
def yL_cancel : MethodName := ⟨RL, "cancel", "(LRobotAisles;I)I"⟩
abbrev cL_pass : ByteArray := method_16_code
def yL_pass : MethodName := ⟨RL, "pass", "(LRobotAisles;I)I"⟩
abbrev cL_distance : ByteArray := method_17_code
def yL_distance : MethodName := ⟨RL, "distance", "(LRobotAisles;II)I"⟩
abbrev cL_distanceAgain : ByteArray := method_18_code
def yL_distanceAgain : MethodName := ⟨RL, "distanceAgain", "(LRobotAisles;II)I"⟩
abbrev cL_arrival : ByteArray := method_19_code
def yL_arrival : MethodName := ⟨RL, "arrival", "(LRobotAisles;II)I"⟩
abbrev cL_arrivalAgain : ByteArray := method_20_code
def yL_arrivalAgain : MethodName := ⟨RL, "arrivalAgain", "(LRobotAisles;II)I"⟩
abbrev cL_suited : ByteArray := method_21_code
def yL_suited : MethodName := ⟨RL, "suited", "(LRobotAisles;I)I"⟩
abbrev cL_waiting : ByteArray := method_23_code
def yL_waiting : MethodName := ⟨RL, "waiting", "(LRobotAisles;I)I"⟩
abbrev cL_reason : ByteArray := method_24_code
def yL_reason : MethodName := ⟨RL, "reason", "(LRobotAisles;Z)I"⟩
abbrev cL_undo : ByteArray := method_25_code
def yL_undo : MethodName := ⟨RL, "undo", "(LRobotAisles;)I"⟩
abbrev cL_cells : ByteArray := method_26_code
def yL_cells : MethodName := ⟨RL, "cells", "(LRobotAisles;)I"⟩
abbrev cL_drawn : ByteArray := method_27_code
def yL_drawn : MethodName := ⟨RL, "drawn", "([I)LRobotAisles;"⟩
abbrev cL_law : ByteArray := code
def yL_law : MethodName := ⟨RL, "law", "([I)Z"⟩
abbrev cL_plans : ByteArray := method_29_code
def yL_plans : MethodName := ⟨RL, "plans", "(LRobotAisles;)Z"⟩
abbrev cL_distances : ByteArray := method_30_code
def yL_distances : MethodName := ⟨RL, "distances", "([ILRobotAisles;)Z"⟩
abbrev cL_arrivals : ByteArray := method_31_code
def yL_arrivals : MethodName := ⟨RL, "arrivals", "([ILRobotAisles;)Z"⟩
abbrev cL_orders : ByteArray := method_32_code
def yL_orders : MethodName := ⟨RL, "orders", "(LRobotAisles;)Z"⟩
abbrev cL_accounts : ByteArray := method_33_code
def yL_accounts : MethodName := ⟨RL, "accounts", "(LRobotAisles;)Z"⟩
abbrev cL_letters : ByteArray := method_34_code
def yL_letters : MethodName := ⟨RL, "letters", "(LRobotAisles;)Z"⟩
abbrev cL_goesOn : ByteArray := method_35_code
def yL_goesOn : MethodName := ⟨RL, "goesOn", "(LRobotAisles;)Z"⟩
abbrev cL_sum : ByteArray := method_36_code
def yL_sum : MethodName := ⟨RL, "sum", "(LRobotAisles;)J"⟩
abbrev cL_undone : ByteArray := method_37_code
def yL_undone : MethodName := ⟨RL, "undone", "([ILRobotAisles;)Z"⟩
end
section
/-! tables of the methods, fields and calls, printed by program (wip/whole/gen_03.py) out of what TURN printed -/
/-- a method: its name, its bytes, how many locals, what it answers, its owner, its height in the calls, where its word lies, its handlers -/
abbrev q_M : Type := MethodName × ByteArray × Nat × Option FieldType × Nat × Nat × Nat × List (Nat × Nat × Nat × Nat)
def q_nm : Nat → String
  | 0 => RX0
  | 1 => RX1
  | 2 => RX2
  | 3 => RX3
  | 4 => RX4
  | 5 => RX5
  | 6 => RX6
  | 7 => RX7
  | 8 => RJ4
  | 9 => RL
  | 10 => RJ7
  | 11 => RJ9
  | 12 => RJ0
  | 13 => RJ1
  | 14 => RJ3
  | 15 => RJ5
  | 16 => RJ8
  | _ => ""
def q_cnm : Nat → String
  | 0 => RX0
  | 1 => RX1
  | 2 => RX2
  | 3 => RX3
  | 4 => RX4
  | 5 => RX5
  | 6 => RX6
  | 7 => RX7
  | 8 => RJ4
  | _ => RJ0
def q_T : Nat → u_T
  | 0 => TX0
  | 1 => TX1
  | 2 => TX2
  | 3 => TX3
  | 4 => TX4
  | 5 => TX5
  | 6 => TX6
  | 7 => TX7
  | 8 => TJ4
  | _ => TJ0
def q_N : Nat → Nat
  | 0 => 9
  | 1 => 3
  | 2 => 4
  | 3 => 5
  | 4 => 8
  | 5 => 7
  | 6 => 10
  | 7 => 10
  | 8 => 4
  | _ => 4
def q_ty : Nat → Nat → FieldType
  | 0 => tyX0
  | 1 => tyX1
  | 2 => tyX2
  | 3 => tyX3
  | 4 => tyX4
  | 5 => tyX5
  | 6 => tyX6
  | 7 => tyX7
  | 8 => tyJ4
  | _ => tyJ0
def q_cls : List vw_C := [(RX0, TX0, 9), (RX1, TX1, 3), (RX2, TX2, 4), (RX3, TX3, 5), (RX4, TX4, 8), (RX5, TX5, 7), (RX6, TX6, 10), (RX7, TX7, 10), (RJ4, TJ4, 4), (RJ0, TJ0, 4)]
abbrev q_m_J0_coder_7d493 : q_M := (yJ0_coder_7d493, cJ0_coder_7d493, 1, some .byte, 12, 0, 479, [])
abbrev q_m_J0_isLatin1_aae02 : q_M := (yJ0_isLatin1_aae02, cJ0_isLatin1_aae02, 1, some .boolean, 12, 0, 691, [])
abbrev q_m_J3_checkIndex_8e157 : q_M := (yJ3_checkIndex_8e157, cJ3_checkIndex_8e157, 3, some .int, 14, 0, 700, [])
abbrev q_m_J5_getValue_6d5f1 : q_M := (yJ5_getValue_6d5f1, cJ5_getValue_6d5f1, 1, some (.array .byte), 15, 0, 537, [])
abbrev q_m_J5_isLatin1_aae02 : q_M := (yJ5_isLatin1_aae02, cJ5_isLatin1_aae02, 1, some .boolean, 15, 0, 445, [])
abbrev q_m_J5_length_8abf5 : q_M := (yJ5_length_8abf5, cJ5_length_8abf5, 1, some .int, 15, 0, 545, [])
abbrev q_m_J7_checkLength_df160 : q_M := (yJ7_checkLength_df160, cJ7_checkLength_df160, 2, none, 10, 0, 555, [])
abbrev q_m_J7_fill_53178 : q_M := (yJ7_fill_53178, cJ7_fill_53178, 4, none, 10, 0, 1045, [])
abbrev q_m_J7_fill_d0a16 : q_M := (yJ7_fill_d0a16, cJ7_fill_d0a16, 5, none, 10, 0, 1023, [])
abbrev q_m_L_cell : q_M := (yL_cell, cL_cell, 2, some .int, 9, 0, 362, [])
abbrev q_m_X0_isBetter : q_M := (yX0_isBetter, cX0_isBetter, 5, some .boolean, 0, 0, 1345, [])
abbrev q_m_X0_noteRound : q_M := (yX0_noteRound, cX0_noteRound, 5, none, 0, 0, 1250, [])
abbrev q_m_X2_canEndRow : q_M := (yX2_canEndRow, cX2_canEndRow, 2, some .boolean, 2, 0, 761, [])
abbrev q_m_X2_canGrowRow : q_M := (yX2_canGrowRow, cX2_canGrowRow, 2, some .boolean, 2, 0, 774, [])
abbrev q_m_X2_endRow : q_M := (yX2_endRow, cX2_endRow, 2, none, 2, 0, 765, [])
abbrev q_m_X2_isFull : q_M := (yX2_isFull, cX2_isFull, 1, some .boolean, 2, 0, 719, [])
abbrev q_m_X2_kindOf : q_M := (yX2_kindOf, cX2_kindOf, 2, some .int, 2, 0, 768, [])
abbrev q_m_X3_begin : q_M := (yX3_begin, cX3_begin, 5, none, 3, 0, 980, [])
abbrev q_m_X3_isNextLine : q_M := (yX3_isNextLine, cX3_isNextLine, 2, some .boolean, 3, 0, 1120, [])
abbrev q_m_X3_linesLeft : q_M := (yX3_linesLeft, cX3_linesLeft, 1, some .int, 3, 0, 998, [])
abbrev q_m_X4_canEndAt : q_M := (yX4_canEndAt, cX4_canEndAt, 3, some .boolean, 4, 0, 1069, [])
abbrev q_m_X4_isTaken : q_M := (yX4_isTaken, cX4_isTaken, 3, some .boolean, 4, 0, 1061, [])
abbrev q_m_X4_stepsOfPath : q_M := (yX4_stepsOfPath, cX4_stepsOfPath, 5, some .int, 4, 0, 1081, [])
abbrev q_m_X4_tracePath : q_M := (yX4_tracePath, cX4_tracePath, 4, none, 4, 0, 1073, [])
abbrev q_m_X5_begin : q_M := (yX5_begin, cX5_begin, 3, none, 5, 0, 930, [])
abbrev q_m_X5_cellAhead : q_M := (yX5_cellAhead, cX5_cellAhead, 3, some .int, 5, 0, 922, [])
abbrev q_m_X5_follow : q_M := (yX5_follow, cX5_follow, 5, none, 5, 0, 1093, [])
abbrev q_m_X6_cellCount : q_M := (yX6_cellCount, cX6_cellCount, 1, some .int, 6, 0, 807, [])
abbrev q_m_X6_columnOf : q_M := (yX6_columnOf, cX6_columnOf, 2, some .int, 6, 0, 1053, [])
abbrev q_m_X6_isOrder : q_M := (yX6_isOrder, cX6_isOrder, 2, some .boolean, 6, 0, 854, [])
abbrev q_m_X6_isRobot : q_M := (yX6_isRobot, cX6_isRobot, 2, some .boolean, 6, 0, 866, [])
abbrev q_m_X7_refuse : q_M := (yX7_refuse, cX7_refuse, 3, some .boolean, 7, 0, 823, [])
abbrev q_m_X7_signOf : q_M := (yX7_signOf, cX7_signOf, 1, some .char, 7, 0, 1389, [])
abbrev q_m_J0_checkIndex_df160 : q_M := (yJ0_checkIndex_df160, cJ0_checkIndex_df160, 2, none, 12, 1, 697, [])
abbrev q_m_J0_getBytes_840e7 : q_M := (yJ0_getBytes_840e7, cJ0_getBytes_840e7, 4, none, 12, 1, 512, [])
abbrev q_m_J0_length_8abf5 : q_M := (yJ0_length_8abf5, cJ0_length_8abf5, 1, some .int, 12, 1, 475, [])
abbrev q_m_J4_length_8abf5 : q_M := (yJ4_length_8abf5, cJ4_length_8abf5, 1, some .int, 8, 1, 543, [])
abbrev q_m_J5_inflateIfNeededFor_a7421 : q_M := (yJ5_inflateIfNeededFor_a7421, cJ5_inflateIfNeededFor_a7421, 2, none, 15, 1, 488, [])
abbrev q_m_J5_init_d00df : q_M := (yJ5_init_d00df, cJ5_init_d00df, 2, none, 15, 1, 372, [])
abbrev q_m_J7_copyOfRangeByte_39247 : q_M := (yJ7_copyOfRangeByte_39247, cJ7_copyOfRangeByte_39247, 5, some (.array .byte), 10, 1, 552, [])
abbrev q_m_J7_copyOf_9075b : q_M := (yJ7_copyOf_9075b, cJ7_copyOf_9075b, 3, some (.array .byte), 10, 1, 429, [])
abbrev q_m_J8_newLength_cabcc : q_M := (yJ8_newLength_cabcc, cJ8_newLength_cabcc, 4, some .int, 16, 1, 418, [])
abbrev q_m_X0_init : q_M := (yX0_init, cX0_init, 2, none, 0, 1, 264, [])
abbrev q_m_X2_findFault : q_M := (yX2_findFault, cX2_findFault, 4, some .int, 2, 1, 757, [])
abbrev q_m_X2_init : q_M := (yX2_init, cX2_init, 1, none, 2, 1, 239, [])
abbrev q_m_X2_take : q_M := (yX2_take, cX2_take, 2, none, 2, 1, 744, [])
abbrev q_m_X3_copyFrom : q_M := (yX3_copyFrom, cX3_copyFrom, 2, none, 3, 1, 796, [])
abbrev q_m_X3_init : q_M := (yX3_init, cX3_init, 1, none, 3, 1, 138, [])
abbrev q_m_X4_changesPlaces : q_M := (yX4_changesPlaces, cX4_changesPlaces, 6, some .boolean, 4, 1, 1065, [])
abbrev q_m_X4_horizon : q_M := (yX4_horizon, cX4_horizon, 1, some .int, 4, 1, 1041, [])
abbrev q_m_X4_init : q_M := (yX4_init, cX4_init, 2, none, 4, 1, 301, [])
abbrev q_m_X5_charge : q_M := (yX5_charge, cX5_charge, 2, none, 5, 1, 1125, [])
abbrev q_m_X5_copyFrom : q_M := (yX5_copyFrom, cX5_copyFrom, 2, none, 5, 1, 791, [])
abbrev q_m_X5_goOn : q_M := (yX5_goOn, cX5_goOn, 3, none, 5, 1, 1112, [])
abbrev q_m_X5_init : q_M := (yX5_init, cX5_init, 1, none, 5, 1, 93, [])
abbrev q_m_X5_isEverIn : q_M := (yX5_isEverIn, cX5_isEverIn, 3, some .boolean, 5, 1, 918, [])
abbrev q_m_X5_lastCell : q_M := (yX5_lastCell, cX5_lastCell, 1, some .int, 5, 1, 1036, [])
abbrev q_m_X6_batterySum : q_M := (yX6_batterySum, cX6_batterySum, 3, some .int, 6, 1, 887, [])
abbrev q_m_X6_dropRobot : q_M := (yX6_dropRobot, cX6_dropRobot, 4, none, 6, 1, 1433, [])
abbrev q_m_X6_freeRobot : q_M := (yX6_freeRobot, cX6_freeRobot, 3, some .int, 6, 1, 1448, [])
abbrev q_m_X6_isCell : q_M := (yX6_isCell, cX6_isCell, 2, some .boolean, 6, 1, 874, [])
abbrev q_m_X6_isLoaded : q_M := (yX6_isLoaded, cX6_isLoaded, 3, some .boolean, 6, 1, 1089, [])
abbrev q_m_X6_isRankedBefore : q_M := (yX6_isRankedBefore, cX6_isRankedBefore, 3, some .boolean, 6, 1, 1319, [])
abbrev q_m_X6_latenessSum : q_M := (yX6_latenessSum, cX6_latenessSum, 3, some .int, 6, 1, 1379, [])
abbrev q_m_X6_neighbor : q_M := (yX6_neighbor, cX6_neighbor, 3, some .int, 6, 1, 1049, [])
abbrev q_m_X6_pickedSum : q_M := (yX6_pickedSum, cX6_pickedSum, 3, some .int, 6, 1, 883, [])
abbrev q_m_X6_putOrder : q_M := (yX6_putOrder, cX6_putOrder, 6, some .int, 6, 1, 976, [])
abbrev q_m_X6_putRobot : q_M := (yX6_putRobot, cX6_putRobot, 4, some .int, 6, 1, 926, [])
abbrev q_m_X6_rebuild : q_M := (yX6_rebuild, cX6_rebuild, 5, none, 6, 1, 802, [])
abbrev q_m_X6_robotThere : q_M := (yX6_robotThere, cX6_robotThere, 4, some .int, 6, 1, 1157, [])
abbrev q_m_X6_robotWith : q_M := (yX6_robotWith, cX6_robotWith, 3, some .int, 6, 1, 862, [])
abbrev q_m_X6_stepSum : q_M := (yX6_stepSum, cX6_stepSum, 3, some .int, 6, 1, 879, [])
abbrev q_m_X7_refusesPass : q_M := (yX7_refusesPass, cX7_refusesPass, 2, some .boolean, 7, 1, 1104, [])
abbrev q_m_X7_refusesRelease : q_M := (yX7_refusesRelease, cX7_refusesRelease, 2, some .boolean, 7, 1, 1444, [])
abbrev q_m_X7_refusesSet : q_M := (yX7_refusesSet, cX7_refusesSet, 3, some .boolean, 7, 1, 819, [])
abbrev q_m_X7_refusesTakeOff : q_M := (yX7_refusesTakeOff, cX7_refusesTakeOff, 2, some .boolean, 7, 1, 1429, [])
abbrev q_m_J1_charAt_3b067 : q_M := (yJ1_charAt_3b067, cJ1_charAt_3b067, 2, some .char, 13, 2, 694, [])
abbrev q_m_J4_init_da8c8 : q_M := (yJ4_init_da8c8, cJ4_init_da8c8, 1, none, 8, 2, 369, [])
abbrev q_m_J5_newCapacity_0f7a4 : q_M := (yJ5_newCapacity_0f7a4, cJ5_newCapacity_0f7a4, 6, some .int, 15, 2, 415, [])
abbrev q_m_J5_putStringAt_47b60 : q_M := (yJ5_putStringAt_47b60, cJ5_putStringAt_47b60, 3, none, 15, 2, 484, [])
abbrev q_m_J7_copyOfRange_39247 : q_M := (yJ7_copyOfRange_39247, cJ7_copyOfRange_39247, 3, some (.array .byte), 10, 2, 549, [])
abbrev q_m_X0_stepsTo : q_M := (yX0_stepsTo, cX0_stepsTo, 2, some .int, 0, 2, 1210, [])
abbrev q_m_X5_lastTickIn : q_M := (yX5_lastTickIn, cX5_lastTickIn, 3, some .int, 5, 2, 1032, [])
abbrev q_m_X6_canEnter : q_M := (yX6_canEnter, cX6_canEnter, 2, some .boolean, 6, 2, 906, [])
abbrev q_m_X6_closedCount : q_M := (yX6_closedCount, cX6_closedCount, 3, some .int, 6, 2, 870, [])
abbrev q_m_X6_copyFrom : q_M := (yX6_copyFrom, cX6_copyFrom, 3, none, 6, 2, 787, [])
abbrev q_m_X6_endPlan : q_M := (yX6_endPlan, cX6_endPlan, 3, some .int, 6, 2, 1116, [])
abbrev q_m_X6_init : q_M := (yX6_init, cX6_init, 2, none, 6, 2, 86, [])
abbrev q_m_X6_isCellOrNone : q_M := (yX6_isCellOrNone, cX6_isCellOrNone, 2, some .boolean, 6, 2, 968, [])
abbrev q_m_X6_loadedCount : q_M := (yX6_loadedCount, cX6_loadedCount, 3, some .int, 6, 2, 1371, [])
abbrev q_m_X6_lowestRobotEverIn : q_M := (yX6_lowestRobotEverIn, cX6_lowestRobotEverIn, 4, some .int, 6, 2, 914, [])
abbrev q_m_X6_stateOf : q_M := (yX6_stateOf, cX6_stateOf, 2, some .int, 6, 2, 858, [])
abbrev q_m_X6_stepCost : q_M := (yX6_stepCost, cX6_stepCost, 2, some .int, 6, 2, 1085, [])
abbrev q_m_X7_refusesLine : q_M := (yX7_refusesLine, cX7_refusesLine, 2, some .boolean, 7, 2, 972, [])
abbrev q_m_X7_refusesOpen : q_M := (yX7_refusesOpen, cX7_refusesOpen, 2, some .boolean, 7, 2, 1470, [])
abbrev q_m_J0_charAt_5068e : q_M := (yJ0_charAt_5068e, cJ0_charAt_5068e, 2, some .char, 12, 3, 687, [])
abbrev q_m_J0_init_db425 : q_M := (yJ0_init_db425, cJ0_init_db425, 5, none, 12, 3, 531, [])
abbrev q_m_J5_ensureCapacityInternal_d00df : q_M := (yJ5_ensureCapacityInternal_d00df, cJ5_ensureCapacityInternal_d00df, 3, none, 15, 3, 411, [])
abbrev q_m_X0_measureFrom : q_M := (yX0_measureFrom, cX0_measureFrom, 7, none, 0, 3, 1202, [])
abbrev q_m_X0_nearOfNeighbors : q_M := (yX0_nearOfNeighbors, cX0_nearOfNeighbors, 6, some .long, 0, 3, 1246, [])
abbrev q_m_X0_openCells : q_M := (yX0_openCells, cX0_openCells, 4, some .long, 0, 3, 1238, [])
abbrev q_m_X1_giveBack : q_M := (yX1_giveBack, cX1_giveBack, 2, none, 1, 3, 1406, [])
abbrev q_m_X1_init : q_M := (yX1_init, cX1_init, 2, none, 1, 3, 219, [])
abbrev q_m_X1_keep : q_M := (yX1_keep, cX1_keep, 2, none, 1, 3, 783, [])
abbrev q_m_X4_canStep : q_M := (yX4_canStep, cX4_canStep, 4, some .boolean, 4, 3, 1057, [])
abbrev q_m_X4_noteOther : q_M := (yX4_noteOther, cX4_noteOther, 3, none, 4, 3, 1027, [])
abbrev q_m_X6_enteredNeighbors : q_M := (yX6_enteredNeighbors, cX6_enteredNeighbors, 4, some .int, 6, 3, 1162, [])
abbrev q_m_X6_ordersIn : q_M := (yX6_ordersIn, cX6_ordersIn, 4, some .int, 6, 3, 850, [])
abbrev q_m_X6_tick : q_M := (yX6_tick, cX6_tick, 4, some .int, 6, 3, 1108, [])
abbrev q_m_X6_waitingBefore : q_M := (yX6_waitingBefore, cX6_waitingBefore, 4, some .int, 6, 3, 1315, [])
abbrev q_m_X7_refusesAssign : q_M := (yX7_refusesAssign, cX7_refusesAssign, 3, some .boolean, 7, 3, 991, [])
abbrev q_m_X7_refusesFound : q_M := (yX7_refusesFound, cX7_refusesFound, 4, some .boolean, 7, 3, 1077, [])
abbrev q_m_X7_refusesGoal : q_M := (yX7_refusesGoal, cX7_refusesGoal, 3, some .boolean, 7, 3, 1009, [])
abbrev q_m_X7_refusesOrder : q_M := (yX7_refusesOrder, cX7_refusesOrder, 5, some .boolean, 7, 3, 964, [])
abbrev q_m_X7_refusesRobotsCell : q_M := (yX7_refusesRobotsCell, cX7_refusesRobotsCell, 4, some .boolean, 7, 3, 910, [])
abbrev q_m_J0_init_81219 : q_M := (yJ0_init_81219, cJ0_init_81219, 2, none, 12, 4, 528, [])
abbrev q_m_J5_append_cf1ce : q_M := (yJ5_append_cf1ce, cJ5_append_cf1ce, 3, some (.object "java/lang/AbstractStringBuilder"), 15, 4, 403, [])
abbrev q_m_X0_between : q_M := (yX0_between, cX0_between, 3, some .int, 0, 4, 1198, [])
abbrev q_m_X0_countFrom : q_M := (yX0_countFrom, cX0_countFrom, 4, some .int, 0, 4, 1260, [])
abbrev q_m_X0_farthestFrom : q_M := (yX0_farthestFrom, cX0_farthestFrom, 4, some .int, 0, 4, 1268, [])
abbrev q_m_X0_fillTable : q_M := (yX0_fillTable, cX0_fillTable, 6, none, 0, 4, 1242, [])
abbrev q_m_X4_canComeTo : q_M := (yX4_canComeTo, cX4_canComeTo, 7, some .boolean, 4, 4, 1297, [])
abbrev q_m_X4_prepare : q_M := (yX4_prepare, cX4_prepare, 4, some .boolean, 4, 4, 1017, [])
abbrev q_m_X6_waitingOrder : q_M := (yX6_waitingOrder, cX6_waitingOrder, 3, some .int, 6, 4, 1311, [])
abbrev q_m_X7_init : q_M := (yX7_init, cX7_init, 1, none, 7, 4, 78, [])
abbrev q_m_X7_refusesAdd : q_M := (yX7_refusesAdd, cX7_refusesAdd, 3, some .boolean, 7, 4, 901, [])
abbrev q_m_X7_refusesCancel : q_M := (yX7_refusesCancel, cX7_refusesCancel, 2, some .boolean, 7, 4, 1481, [])
abbrev q_m_X7_refusesClose : q_M := (yX7_refusesClose, cX7_refusesClose, 2, some .boolean, 7, 4, 1459, [])
abbrev q_m_J4_append_15ec4 : q_M := (yJ4_append_15ec4, cJ4_append_15ec4, 2, some (.object "java/lang/StringBuilder"), 8, 5, 400, [])
abbrev q_m_J4_toString_0e30d : q_M := (yJ4_toString_0e30d, cJ4_toString_0e30d, 1, some (.object "java/lang/String"), 8, 5, 523, [])
abbrev q_m_X0_bestRobotFor : q_M := (yX0_bestRobotFor, cX0_bestRobotFor, 6, some .int, 0, 5, 1339, [])
abbrev q_m_X0_renewTable : q_M := (yX0_renewTable, cX0_renewTable, 3, none, 0, 5, 1234, [])
abbrev q_m_X4_cellsAfter : q_M := (yX4_cellsAfter, cX4_cellsAfter, 7, some .long, 4, 5, 1293, [])
abbrev q_m_X4_findFirst : q_M := (yX4_findFirst, cX4_findFirst, 11, some .int, 4, 5, 1013, [])
abbrev q_m_X0_betweenByTable : q_M := (yX0_betweenByTable, cX0_betweenByTable, 3, some .int, 0, 6, 1230, [])
abbrev q_m_X4_findTickByTick : q_M := (yX4_findTickByTick, cX4_findTickByTick, 7, some .int, 4, 6, 1289, [])
abbrev q_m_X7_account : q_M := (yX7_account, cX7_account, 2, some .int, 7, 7, 846, [])
abbrev q_m_X7_add : q_M := (yX7_add, cX7_add, 3, some .int, 7, 7, 897, [])
abbrev q_m_X7_append : q_M := (yX7_append, cX7_append, 2, some .int, 7, 7, 715, [])
abbrev q_m_X7_arrival : q_M := (yX7_arrival, cX7_arrival, 4, some .int, 7, 7, 1278, [])
abbrev q_m_X7_arrivalAgain : q_M := (yX7_arrivalAgain, cX7_arrivalAgain, 4, some .int, 7, 7, 1285, [])
abbrev q_m_X7_assign : q_M := (yX7_assign, cX7_assign, 3, some .int, 7, 7, 987, [])
abbrev q_m_X7_cancel : q_M := (yX7_cancel, cX7_cancel, 3, some .int, 7, 7, 1477, [])
abbrev q_m_X7_cell : q_M := (yX7_cell, cX7_cell, 3, some .int, 7, 7, 1153, [])
abbrev q_m_X7_close : q_M := (yX7_close, cX7_close, 2, some .int, 7, 7, 1455, [])
abbrev q_m_X7_distance : q_M := (yX7_distance, cX7_distance, 4, some .int, 7, 7, 1194, [])
abbrev q_m_X7_distanceAgain : q_M := (yX7_distanceAgain, cX7_distanceAgain, 4, some .int, 7, 7, 1226, [])
abbrev q_m_X7_farthest : q_M := (yX7_farthest, cX7_farthest, 2, some .int, 7, 7, 1264, [])
abbrev q_m_X7_lateness : q_M := (yX7_lateness, cX7_lateness, 2, some .double, 7, 7, 1375, [])
abbrev q_m_X7_layout : q_M := (yX7_layout, cX7_layout, 1, some .int, 7, 7, 753, [])
abbrev q_m_X7_letter : q_M := (yX7_letter, cX7_letter, 3, some .char, 7, 7, 1386, [])
abbrev q_m_X7_line : q_M := (yX7_line, cX7_line, 3, some .int, 7, 7, 1328, [])
abbrev q_m_X7_loaded : q_M := (yX7_loaded, cX7_loaded, 1, some .float, 7, 7, 1352, [])
abbrev q_m_X7_open : q_M := (yX7_open, cX7_open, 2, some .int, 7, 7, 1466, [])
abbrev q_m_X7_order : q_M := (yX7_order, cX7_order, 5, some .int, 7, 7, 960, [])
abbrev q_m_X7_orderOf : q_M := (yX7_orderOf, cX7_orderOf, 4, some .int, 7, 7, 1323, [])
abbrev q_m_X7_pass : q_M := (yX7_pass, cX7_pass, 4, some .int, 7, 7, 1100, [])
abbrev q_m_X7_plan : q_M := (yX7_plan, cX7_plan, 4, some .int, 7, 7, 1005, [])
abbrev q_m_X7_planned : q_M := (yX7_planned, cX7_planned, 3, some .int, 7, 7, 1133, [])
abbrev q_m_X7_reach : q_M := (yX7_reach, cX7_reach, 2, some .int, 7, 7, 1256, [])
abbrev q_m_X7_reason : q_M := (yX7_reason, cX7_reason, 2, some .int, 7, 7, 938, [])
abbrev q_m_X7_release : q_M := (yX7_release, cX7_release, 2, some .int, 7, 7, 1440, [])
abbrev q_m_X7_reserved : q_M := (yX7_reserved, cX7_reserved, 3, some .int, 7, 7, 1168, [])
abbrev q_m_X7_robotOf : q_M := (yX7_robotOf, cX7_robotOf, 4, some .int, 7, 7, 1214, [])
abbrev q_m_X7_set : q_M := (yX7_set, cX7_set, 4, some .int, 7, 7, 815, [])
abbrev q_m_X7_suited : q_M := (yX7_suited, cX7_suited, 3, some .int, 7, 7, 1335, [])
abbrev q_m_X7_takeOff : q_M := (yX7_takeOff, cX7_takeOff, 2, some .int, 7, 7, 1425, [])
abbrev q_m_X7_undo : q_M := (yX7_undo, cX7_undo, 1, some .int, 7, 7, 1402, [])
abbrev q_m_X7_waiting : q_M := (yX7_waiting, cX7_waiting, 3, some .int, 7, 7, 1307, [])
abbrev q_m_L_accounts : q_M := (yL_accounts, cL_accounts, 7, some .boolean, 9, 8, 1348, [])
abbrev q_m_L_add : q_M := (yL_add, cL_add, 4, some .int, 9, 8, 893, [(0, 6, 7, 43)])
abbrev q_m_L_append : q_M := (yL_append, cL_append, 3, some .int, 9, 8, 710, [(0, 5, 6, 14)])
abbrev q_m_L_arrival : q_M := (yL_arrival, cL_arrival, 4, some .int, 9, 8, 1274, [(0, 6, 7, 80), (0, 6, 10, 82)])
abbrev q_m_L_arrivalAgain : q_M := (yL_arrivalAgain, cL_arrivalAgain, 4, some .int, 9, 8, 1281, [(0, 6, 7, 80), (0, 6, 10, 82)])
abbrev q_m_L_assign : q_M := (yL_assign, cL_assign, 4, some .int, 9, 8, 983, [(0, 6, 7, 43)])
abbrev q_m_L_cancel : q_M := (yL_cancel, cL_cancel, 3, some .int, 9, 8, 1473, [(0, 5, 6, 43)])
abbrev q_m_L_cells : q_M := (yL_cells, cL_cells, 1, some .int, 9, 8, 890, [])
abbrev q_m_L_close : q_M := (yL_close, cL_close, 3, some .int, 9, 8, 1451, [(0, 5, 6, 43)])
abbrev q_m_L_distance : q_M := (yL_distance, cL_distance, 4, some .int, 9, 8, 1171, [(0, 6, 7, 80), (0, 6, 10, 82)])
abbrev q_m_L_distanceAgain : q_M := (yL_distanceAgain, cL_distanceAgain, 4, some .int, 9, 8, 1222, [(0, 6, 7, 80), (0, 6, 10, 82)])
abbrev q_m_L_layout : q_M := (yL_layout, cL_layout, 2, some .int, 9, 8, 748, [(0, 4, 5, 20)])
abbrev q_m_L_open : q_M := (yL_open, cL_open, 3, some .int, 9, 8, 1462, [(0, 5, 6, 43)])
abbrev q_m_L_order : q_M := (yL_order, cL_order, 6, some .int, 9, 8, 956, [(0, 9, 10, 43)])
abbrev q_m_L_pass : q_M := (yL_pass, cL_pass, 3, some .int, 9, 8, 1096, [(0, 5, 6, 43)])
abbrev q_m_L_plan : q_M := (yL_plan, cL_plan, 4, some .int, 9, 8, 1001, [(0, 6, 7, 43)])
abbrev q_m_L_reason : q_M := (yL_reason, cL_reason, 3, some .int, 9, 8, 933, [(0, 5, 6, 82)])
abbrev q_m_L_release : q_M := (yL_release, cL_release, 3, some .int, 9, 8, 1436, [(0, 5, 6, 43)])
abbrev q_m_L_set : q_M := (yL_set, cL_set, 4, some .int, 9, 8, 810, [(0, 6, 7, 43)])
abbrev q_m_L_suited : q_M := (yL_suited, cL_suited, 3, some .int, 9, 8, 1331, [(0, 5, 6, 80), (0, 5, 9, 82)])
abbrev q_m_L_takeOff : q_M := (yL_takeOff, cL_takeOff, 3, some .int, 9, 8, 1421, [(0, 5, 6, 43)])
abbrev q_m_L_undo : q_M := (yL_undo, cL_undo, 2, some .int, 9, 8, 1398, [(0, 4, 5, 14)])
abbrev q_m_L_waiting : q_M := (yL_waiting, cL_waiting, 3, some .int, 9, 8, 1303, [(0, 5, 6, 82)])
abbrev q_m_L_arrivals : q_M := (yL_arrivals, cL_arrivals, 7, some .boolean, 9, 9, 1271, [])
abbrev q_m_L_distances : q_M := (yL_distances, cL_distances, 10, some .boolean, 9, 9, 1219, [])
abbrev q_m_L_layout_ : q_M := (yL_layout_, cL_layout_, 3, some .int, 9, 9, 682, [])
abbrev q_m_L_letters : q_M := (yL_letters, cL_letters, 5, some .boolean, 9, 9, 1382, [])
abbrev q_m_L_orders : q_M := (yL_orders, cL_orders, 11, some .boolean, 9, 9, 1300, [])
abbrev q_m_L_plans : q_M := (yL_plans, cL_plans, 6, some .boolean, 9, 9, 1129, [])
abbrev q_m_L_sum : q_M := (yL_sum, cL_sum, 5, some .long, 9, 9, 1412, [])
abbrev q_m_L_drawn : q_M := (yL_drawn, cL_drawn, 9, some (.object "RobotAisles"), 9, 10, 73, [])
abbrev q_m_L_goesOn : q_M := (yL_goesOn, cL_goesOn, 11, some .boolean, 9, 10, 1394, [])
abbrev q_m_L_undone : q_M := (yL_undone, cL_undone, 7, some .boolean, 9, 10, 1409, [])
abbrev q_m_L_law : q_M := (yL_law, code, 2, some .boolean, 9, 11, 0, [])
def q_fl : Nat → List (Nat × (Nat × Nat × Nat))
  | 0 => [(9, (0, 0, 268)), (15, (0, 1, 269)), (19, (0, 2, 270)), (24, (0, 3, 271)), (27, (0, 4, 272)), (31, (0, 5, 273)), (64, (6, 7, 187)), (68, (5, 2, 105)), (74, (5, 0, 97)), (84, (5, 1, 101)), (108, (0, 6, 274)), (111, (6, 0, 170)), (114, (0, 7, 275)), (117, (6, 1, 173)), (120, (0, 8, 276))]
  | 1 => [(11, (1, 0, 224)), (18, (1, 1, 225)), (26, (1, 2, 226))]
  | 2 => [(9, (2, 0, 241)), (15, (2, 1, 243)), (23, (2, 2, 247)), (26, (2, 3, 249))]
  | 3 => [(9, (3, 4, 151)), (15, (3, 3, 148)), (19, (3, 0, 140)), (22, (3, 1, 143)), (25, (3, 2, 145))]
  | 4 => [(9, (4, 0, 303)), (15, (4, 1, 304)), (19, (4, 2, 305)), (22, (4, 3, 306)), (26, (4, 4, 307)), (43, (6, 7, 186)), (49, (4, 5, 309)), (53, (5, 0, 96)), (73, (4, 6, 310)), (94, (4, 7, 311)), (116, (6, 9, 192))]
  | 5 => [(9, (5, 6, 115)), (15, (5, 2, 104)), (19, (5, 0, 95)), (22, (5, 1, 100)), (25, (5, 3, 108)), (28, (5, 4, 111)), (31, (5, 5, 114))]
  | 6 => [(9, (6, 0, 169)), (15, (6, 1, 172)), (18, (6, 5, 181)), (22, (6, 6, 183)), (28, (6, 7, 185)), (35, (6, 8, 189)), (40, (6, 9, 191)), (52, (6, 2, 175)), (55, (6, 3, 177)), (58, (6, 4, 179)), (68, (2, 2, 246)), (71, (2, 3, 248)), (72, (2, 1, 245)), (75, (2, 0, 242)), (112, (5, 2, 107)), (118, (3, 2, 146)), (127, (3, 3, 149)), (143, (3, 0, 141)), (152, (5, 3, 109)), (155, (5, 1, 103)), (158, (5, 4, 113)), (168, (5, 0, 99))]
  | 7 => [(12, (7, 0, 329)), (16, (7, 1, 330)), (22, (7, 2, 331)), (29, (7, 3, 332)), (38, (7, 4, 333)), (45, (7, 5, 334)), (49, (7, 6, 335)), (53, (7, 7, 336)), (57, (7, 8, 337)), (60, (7, 9, 338)), (74, (2, 1, 244)), (112, (6, 3, 178)), (131, (6, 7, 188)), (135, (5, 2, 106)), (151, (6, 4, 180)), (157, (6, 5, 182)), (164, (6, 8, 190)), (189, (6, 6, 184)), (202, (6, 9, 193)), (220, (4, 4, 308)), (230, (5, 4, 112)), (233, (5, 0, 98)), (239, (5, 1, 102)), (285, (5, 3, 110)), (294, (3, 0, 142)), (297, (3, 1, 144)), (300, (3, 2, 147)), (306, (3, 3, 150)), (309, (3, 4, 152)), (334, (6, 0, 171)), (337, (6, 1, 174)), (340, (6, 2, 176)), (352, (1, 2, 227))]
  | 12 => [(9, (9, 0, 669)), (15, (9, 1, 670)), (1048, (8, 2, 385))]
  | 15 => [(15, (8, 0, 383)), (22, (8, 1, 384)), (79, (8, 3, 386))]
  | _ => []
def q_cal : Nat → List (Nat × (Nat × Nat × q_M × Nat × Nat × Nat × Nat))
  | 0 => [(34, (1, 1, q_m_X0_measureFrom, 1199, 1201, 24, 48)), (38, (1, 1, q_m_X0_stepsTo, 1207, 1209, 25, 48)), (42, (1, 1, q_m_X6_isCell, 1204, 872, 873, 42)), (48, (0, 2, q_m_J7_fill_53178, 1203, 1044, 0, 56)), (54, (1, 2, q_m_X6_neighbor, 1205, 1047, 1048, 42)), (58, (1, 1, q_m_X6_canEnter, 1206, 904, 905, 42)), (61, (1, 1, q_m_X6_isRobot, 1340, 864, 865, 42)), (77, (1, 2, q_m_X0_between, 1341, 1196, 1197, 48)), (80, (1, 4, q_m_X0_isBetter, 1342, 1344, 34, 48)), (101, (1, 0, q_m_X0_renewTable, 1231, 1233, 26, 48)), (104, (1, 0, q_m_X0_openCells, 1235, 1237, 27, 48)), (124, (1, 0, q_m_X0_fillTable, 1239, 1241, 28, 48)), (127, (1, 1, q_m_X0_nearOfNeighbors, 1243, 1245, 29, 48)), (133, (0, 3, q_m_X0_noteRound, 1248, 1249, 0, 48))]
  | 1 => [(17, (2, 0, q_m_X6_init, 223, 85, 0, 42)), (22, (1, 1, q_m_X6_copyFrom, 784, 785, 786, 42))]
  | 2 => [(19, (1, 0, q_m_X2_isFull, 745, 717, 718, 47)), (29, (1, 1, q_m_X2_canEndRow, 758, 760, 1, 47)), (33, (1, 1, q_m_X2_endRow, 762, 764, 2, 47)), (37, (0, 1, q_m_X2_kindOf, 766, 767, 0, 47)), (41, (1, 1, q_m_X2_canGrowRow, 771, 773, 3, 47))]
  | 4 => [(29, (1, 2, q_m_X4_prepare, 1014, 1016, 12, 49)), (33, (0, 2, q_m_J7_fill_53178, 1043, 1044, 0, 56)), (39, (1, 0, q_m_X4_horizon, 1038, 1040, 14, 49)), (58, (1, 2, q_m_X6_neighbor, 1046, 1047, 1048, 42)), (62, (1, 3, q_m_X4_canStep, 1054, 1056, 16, 49)), (66, (1, 2, q_m_X4_canEndAt, 1066, 1068, 19, 49)), (69, (1, 1, q_m_X4_tracePath, 1070, 1072, 20, 49)), (76, (1, 2, q_m_X4_cellsAfter, 1290, 1292, 30, 49)), (80, (1, 1, q_m_X6_isCell, 1019, 872, 873, 42)), (84, (1, 3, q_m_X4_canComeTo, 1294, 1296, 31, 49)), (88, (1, 1, q_m_X6_isRobot, 1018, 864, 865, 42)), (91, (1, 1, q_m_X6_canEnter, 1020, 904, 905, 42)), (97, (0, 2, q_m_J7_fill_d0a16, 1021, 1022, 0, 56)), (100, (1, 1, q_m_X4_noteOther, 1024, 1026, 13, 49)), (104, (1, 1, q_m_X5_cellAhead, 1028, 920, 921, 43)), (108, (1, 1, q_m_X5_lastTickIn, 1029, 1030, 1031, 43)), (122, (1, 2, q_m_X4_isTaken, 1058, 1060, 17, 49)), (125, (1, 3, q_m_X4_changesPlaces, 1062, 1064, 18, 49))]
  | 5 => [(40, (1, 1, q_m_X5_cellAhead, 919, 920, 921, 43)), (44, (1, 0, q_m_X5_lastCell, 1033, 1034, 1035, 43))]
  | 6 => [(32, (2, 0, q_m_X5_init, 91, 92, 0, 43)), (39, (2, 0, q_m_X3_init, 136, 137, 0, 44)), (61, (1, 1, q_m_X5_copyFrom, 788, 789, 790, 43)), (65, (1, 1, q_m_X3_copyFrom, 793, 794, 795, 44)), (79, (0, 1, q_m_X2_kindOf, 803, 767, 0, 47)), (83, (1, 0, q_m_X6_cellCount, 875, 805, 806, 42)), (87, (1, 1, q_m_X6_isCell, 871, 872, 873, 42)), (91, (1, 1, q_m_X6_columnOf, 1050, 1052, 15, 42)), (95, (1, 2, q_m_X6_neighbor, 1163, 1047, 1048, 42)), (99, (1, 1, q_m_X6_canEnter, 1164, 904, 905, 42)), (102, (1, 2, q_m_X5_begin, 927, 928, 929, 43)), (106, (1, 1, q_m_X6_isRobot, 863, 864, 865, 42)), (109, (1, 4, q_m_X3_begin, 977, 978, 979, 44)), (115, (1, 1, q_m_X6_isOrder, 851, 852, 853, 42)), (121, (1, 1, q_m_X5_cellAhead, 1158, 920, 921, 43)), (124, (1, 1, q_m_X5_isEverIn, 915, 916, 917, 43)), (130, (1, 1, q_m_X6_robotWith, 859, 860, 861, 42)), (133, (1, 1, q_m_X6_stateOf, 855, 856, 857, 42)), (136, (1, 1, q_m_X6_waitingBefore, 1312, 1314, 32, 42)), (139, (1, 2, q_m_X6_isRankedBefore, 1316, 1318, 33, 42)), (146, (1, 0, q_m_X3_linesLeft, 1121, 996, 997, 44)), (149, (1, 1, q_m_X6_isLoaded, 1086, 1087, 1088, 42)), (161, (1, 0, q_m_X5_goOn, 1109, 1110, 1111, 43)), (164, (1, 1, q_m_X6_endPlan, 1113, 1115, 23, 42)), (171, (1, 1, q_m_X5_charge, 1122, 1123, 1124, 43)), (175, (1, 1, q_m_X3_isNextLine, 1117, 1118, 1119, 44))]
  | 7 => [(11, (2, 0, q_m_X6_init, 84, 85, 0, 42)), (21, (2, 0, q_m_X1_init, 217, 218, 0, 46)), (28, (2, 0, q_m_X2_init, 237, 238, 0, 47)), (35, (2, 1, q_m_X0_init, 262, 263, 0, 48)), (44, (2, 1, q_m_X4_init, 299, 300, 0, 49)), (63, (1, 0, q_m_X2_isFull, 716, 717, 718, 47)), (70, (1, 1, q_m_X2_take, 741, 742, 743, 47)), (77, (1, 0, q_m_X2_findFault, 754, 755, 756, 47)), (84, (1, 1, q_m_X1_keep, 780, 781, 782, 46)), (87, (1, 1, q_m_X6_rebuild, 799, 800, 801, 42)), (91, (1, 0, q_m_X6_cellCount, 804, 805, 806, 42)), (94, (1, 2, q_m_X7_refusesAdd, 898, 900, 6, 41)), (101, (1, 2, q_m_X6_putRobot, 923, 924, 925, 42)), (105, (1, 1, q_m_X6_isCell, 902, 872, 873, 42)), (109, (1, 2, q_m_X7_refuse, 820, 822, 5, 41)), (115, (1, 1, q_m_X6_canEnter, 903, 904, 905, 42)), (118, (1, 2, q_m_X7_refusesRobotsCell, 907, 909, 7, 41)), (121, (1, 1, q_m_X7_refusesTakeOff, 1426, 1428, 35, 41)), (124, (1, 1, q_m_X6_dropRobot, 1430, 1431, 1432, 42)), (128, (1, 1, q_m_X6_isRobot, 992, 864, 865, 42)), (140, (1, 4, q_m_X7_refusesOrder, 961, 963, 8, 41)), (144, (1, 4, q_m_X6_putOrder, 973, 974, 975, 42)), (148, (1, 1, q_m_X6_isCellOrNone, 965, 966, 967, 42)), (154, (1, 1, q_m_X7_refusesLine, 969, 971, 9, 41)), (161, (1, 2, q_m_X7_refusesAssign, 988, 990, 10, 41)), (168, (1, 0, q_m_X3_linesLeft, 995, 996, 997, 44)), (173, (1, 1, q_m_X6_isOrder, 993, 852, 853, 42)), (176, (1, 1, q_m_X6_stateOf, 994, 856, 857, 42)), (180, (1, 1, q_m_X7_refusesRelease, 1441, 1443, 36, 41)), (183, (1, 1, q_m_X6_freeRobot, 1445, 1446, 1447, 42)), (186, (1, 1, q_m_X7_refusesClose, 1456, 1458, 37, 41)), (193, (1, 0, q_m_X6_closedCount, 867, 868, 869, 42)), (196, (1, 1, q_m_X7_refusesOpen, 1467, 1469, 38, 41)), (199, (1, 2, q_m_X7_refusesSet, 816, 818, 4, 41)), (211, (1, 2, q_m_X7_refusesGoal, 1006, 1008, 11, 41)), (214, (1, 2, q_m_X4_findFirst, 1010, 1011, 1012, 49)), (217, (1, 2, q_m_X7_refusesFound, 1074, 1076, 21, 41)), (223, (1, 1, q_m_X6_stepCost, 1082, 1083, 1084, 42)), (226, (1, 3, q_m_X5_follow, 1090, 1091, 1092, 43)), (236, (1, 1, q_m_X4_stepsOfPath, 1078, 1079, 1080, 49)), (242, (1, 1, q_m_X7_refusesCancel, 1478, 1480, 39, 41)), (245, (1, 1, q_m_X7_refusesPass, 1101, 1103, 22, 41)), (248, (1, 0, q_m_X6_tick, 1105, 1106, 1107, 42)), (254, (1, 2, q_m_X6_robotThere, 1154, 1155, 1156, 42)), (257, (1, 1, q_m_X6_enteredNeighbors, 1159, 1160, 1161, 42)), (260, (0, 1, q_m_X7_signOf, 1387, 1388, 0, 41)), (264, (1, 2, q_m_X0_between, 1195, 1196, 1197, 48)), (270, (1, 2, q_m_X0_betweenByTable, 1227, 1228, 1229, 48)), (273, (1, 1, q_m_X0_countFrom, 1257, 1258, 1259, 48)), (276, (1, 1, q_m_X0_farthestFrom, 1265, 1266, 1267, 48)), (279, (1, 0, q_m_X5_lastCell, 1215, 1034, 1035, 43)), (282, (1, 1, q_m_X6_isLoaded, 1216, 1087, 1088, 42)), (288, (1, 1, q_m_X5_cellAhead, 1149, 920, 921, 43)), (291, (1, 2, q_m_X4_findTickByTick, 1286, 1287, 1288, 49)), (303, (1, 1, q_m_X6_robotWith, 1324, 860, 861, 42)), (312, (1, 1, q_m_X6_ordersIn, 847, 848, 849, 42)), (315, (1, 1, q_m_X6_waitingOrder, 1308, 1309, 1310, 42)), (318, (1, 1, q_m_X0_bestRobotFor, 1336, 1337, 1338, 48)), (328, (1, 0, q_m_X6_loadedCount, 1368, 1369, 1370, 42)), (331, (1, 0, q_m_X6_latenessSum, 1376, 1377, 1378, 42)), (343, (1, 0, q_m_X6_stepSum, 876, 877, 878, 42)), (346, (1, 0, q_m_X6_pickedSum, 880, 881, 882, 42)), (349, (1, 0, q_m_X6_batterySum, 884, 885, 886, 42)), (355, (1, 1, q_m_X1_giveBack, 1403, 1404, 1405, 46)), (361, (1, 2, q_m_X6_lowestRobotEverIn, 911, 912, 913, 42))]
  | 8 => [(1, (2, 1, q_m_J5_init_d00df, 370, 371, 0, 50)), (137, (2, 1, q_m_J0_init_81219, 526, 527, 0, 52))]
  | 9 => [(8, (1, 1, q_m_X7_append, 712, 713, 714, 41)), (16, (1, 0, q_m_X7_layout, 750, 751, 752, 41)), (22, (1, 0, q_m_J0_length_8abf5, 683, 473, 474, 52)), (27, (1, 1, q_m_J0_charAt_5068e, 684, 685, 686, 52)), (31, (0, 2, q_m_L_append, 708, 709, 0, 40)), (36, (0, 1, q_m_L_layout, 746, 747, 0, 40)), (39, (1, 2, q_m_X7_add, 894, 895, 896, 41)), (45, (1, 1, q_m_X7_takeOff, 1422, 1423, 1424, 41)), (49, (1, 4, q_m_X7_order, 957, 958, 959, 41)), (53, (1, 2, q_m_X7_assign, 984, 985, 986, 41)), (56, (1, 1, q_m_X7_release, 1437, 1438, 1439, 41)), (59, (1, 1, q_m_X7_close, 1452, 1453, 1454, 41)), (62, (1, 1, q_m_X7_open, 1463, 1464, 1465, 41)), (65, (1, 2, q_m_X7_set, 812, 813, 814, 41)), (68, (1, 2, q_m_X7_plan, 1002, 1003, 1004, 41)), (71, (1, 1, q_m_X7_cancel, 1474, 1475, 1476, 41)), (74, (1, 1, q_m_X7_pass, 1097, 1098, 1099, 41)), (77, (1, 2, q_m_X7_distance, 1191, 1192, 1193, 41)), (84, (1, 2, q_m_X7_distanceAgain, 1223, 1224, 1225, 41)), (87, (1, 2, q_m_X7_arrival, 1275, 1276, 1277, 41)), (90, (1, 2, q_m_X7_arrivalAgain, 1282, 1283, 1284, 41)), (93, (1, 1, q_m_X7_suited, 1332, 1333, 1334, 41)), (99, (1, 1, q_m_X7_waiting, 1304, 1305, 1306, 41)), (102, (1, 1, q_m_X7_reason, 935, 936, 937, 41)), (106, (1, 0, q_m_X7_undo, 1399, 1400, 1401, 41)), (109, (1, 1, q_m_X7_account, 843, 844, 845, 41)), (112, (2, 0, q_m_X7_init, 76, 77, 0, 41)), (113, (0, 2, q_m_L_cell, 360, 361, 0, 40)), (121, (2, 0, q_m_J4_init_da8c8, 367, 368, 0, 51)), (122, (1, 1, q_m_J4_append_15ec4, 397, 398, 399, 51)), (135, (1, 0, q_m_J4_toString_0e30d, 520, 521, 522, 51)), (139, (0, 2, q_m_L_layout_, 680, 681, 0, 40)), (142, (0, 3, q_m_L_set, 808, 809, 0, 40)), (145, (0, 1, q_m_L_cells, 888, 889, 0, 40)), (148, (0, 3, q_m_L_add, 891, 892, 0, 40)), (150, (0, 2, q_m_L_reason, 931, 932, 0, 40)), (153, (0, 5, q_m_L_order, 954, 955, 0, 40)), (156, (0, 3, q_m_L_assign, 981, 982, 0, 40)), (158, (0, 3, q_m_L_plan, 999, 1000, 0, 40)), (160, (0, 2, q_m_L_pass, 1094, 1095, 0, 40)), (163, (0, 1, q_m_L_drawn, 71, 72, 0, 40)), (167, (0, 1, q_m_L_plans, 1127, 1128, 0, 40)), (171, (0, 2, q_m_L_distances, 1217, 1218, 0, 40)), (175, (0, 2, q_m_L_arrivals, 1269, 1270, 0, 40)), (178, (0, 1, q_m_L_orders, 1298, 1299, 0, 40)), (181, (0, 1, q_m_L_accounts, 1346, 1347, 0, 40)), (184, (0, 1, q_m_L_letters, 1380, 1381, 0, 40)), (187, (0, 1, q_m_L_goesOn, 1392, 1393, 0, 40)), (190, (0, 2, q_m_L_undone, 1407, 1408, 0, 40)), (193, (1, 2, q_m_X7_planned, 1130, 1131, 1132, 41)), (196, (1, 2, q_m_X7_cell, 1150, 1151, 1152, 41)), (198, (1, 2, q_m_X7_reserved, 1165, 1166, 1167, 41)), (201, (0, 3, q_m_L_distance, 1169, 1170, 0, 40)), (203, (1, 2, q_m_X7_robotOf, 1211, 1212, 1213, 41)), (206, (0, 3, q_m_L_distanceAgain, 1220, 1221, 0, 40)), (213, (1, 1, q_m_X7_reach, 1253, 1254, 1255, 41)), (216, (1, 1, q_m_X7_farthest, 1261, 1262, 1263, 41)), (219, (0, 3, q_m_L_arrival, 1272, 1273, 0, 40)), (221, (0, 3, q_m_L_arrivalAgain, 1279, 1280, 0, 40)), (223, (0, 2, q_m_L_waiting, 1301, 1302, 0, 40)), (225, (1, 2, q_m_X7_orderOf, 1320, 1321, 1322, 41)), (228, (1, 2, q_m_X7_line, 1325, 1326, 1327, 41)), (231, (0, 2, q_m_L_suited, 1329, 1330, 0, 40)), (233, (1, 0, q_m_X7_loaded, 1349, 1350, 1351, 41)), (237, (1, 0, q_m_X7_lateness, 1372, 1373, 1374, 41)), (241, (1, 1, q_m_X7_letter, 1383, 1384, 1385, 41)), (249, (0, 1, q_m_L_undo, 1396, 1397, 0, 40)), (263, (0, 1, q_m_L_sum, 1410, 1411, 0, 40)), (267, (0, 2, q_m_L_takeOff, 1419, 1420, 0, 40)), (269, (0, 2, q_m_L_release, 1434, 1435, 0, 40)), (271, (0, 2, q_m_L_close, 1449, 1450, 0, 40)), (273, (0, 2, q_m_L_open, 1460, 1461, 0, 40)), (275, (0, 2, q_m_L_cancel, 1471, 1472, 0, 40))]
  | 10 => [(339, (0, 3, q_m_J7_copyOfRangeByte_39247, 550, 551, 0, 56)), (343, (0, 2, q_m_J7_checkLength_df160, 553, 554, 0, 56))]
  | 12 => [(54, (0, 3, q_m_J7_copyOfRange_39247, 547, 548, 0, 56)), (335, (1, 0, q_m_J0_coder_7d493, 476, 477, 478, 52)), (489, (2, 2, q_m_J0_init_db425, 529, 530, 0, 52)), (492, (1, 0, q_m_J0_isLatin1_aae02, 688, 689, 690, 52)), (495, (0, 2, q_m_J1_charAt_3b067, 692, 693, 0, 58)), (1059, (0, 3, q_m_J3_checkIndex_8e157, 698, 699, 0, 57))]
  | 13 => [(9, (0, 2, q_m_J0_checkIndex_df160, 695, 696, 0, 52))]
  | 15 => [(32, (1, 0, q_m_J0_length_8abf5, 472, 473, 474, 52)), (40, (1, 0, q_m_J0_coder_7d493, 489, 477, 478, 52)), (108, (0, 2, q_m_J7_copyOf_9075b, 427, 428, 0, 56)), (114, (0, 3, q_m_J8_newLength_cabcc, 416, 417, 0, 54)), (399, (1, 3, q_m_J0_getBytes_840e7, 509, 510, 511, 52))]
  | _ => []
def q_cav : Nat → List (Nat × (Nat × Nat × MethodName × q_M × Nat × Nat × Nat × Nat × Nat × Nat))
  | 8 => [(29, (4, 1, yJ5_append_cf1ce, q_m_J5_append_cf1ce, 401, 402, 395, 50, 1483, 403)), (343, (4, 0, yJ5_length_8abf5, q_m_J5_length_8abf5, 544, 539, 395, 50, 540, 545))]
  | 12 => [(549, (3, 0, yJ5_length_8abf5, q_m_J4_length_8abf5, 538, 542, 541, 51, 540, 545)), (552, (3, 0, yJ5_getValue_6d5f1, q_m_J5_getValue_6d5f1, 533, 534, 536, 50, 535, 537)), (1047, (3, 0, yJ5_isLatin1_aae02, q_m_J5_isLatin1_aae02, 546, 442, 444, 50, 443, 445))]
  | 15 => [(100, (3, 1, yJ5_ensureCapacityInternal_d00df, q_m_J5_ensureCapacityInternal_d00df, 408, 410, 1511, 50, 1485, 411)), (104, (3, 1, yJ5_newCapacity_0f7a4, q_m_J5_newCapacity_0f7a4, 412, 414, 1512, 50, 1486, 415)), (208, (3, 2, yJ5_putStringAt_47b60, q_m_J5_putStringAt_47b60, 481, 483, 1513, 50, 1487, 484)), (397, (3, 1, yJ5_inflateIfNeededFor_a7421, q_m_J5_inflateIfNeededFor_a7421, 485, 487, 1514, 50, 1488, 488))]
  | _ => []
def q_new : Nat → List (Nat × (Nat × Nat × Nat × Nat))
  | 1 => [(9, (6, 221, 83, 42))]
  | 6 => [(26, (5, 88, 90, 43)), (33, (3, 133, 135, 44))]
  | 7 => [(9, (6, 82, 83, 42)), (19, (1, 215, 216, 46)), (26, (2, 235, 236, 47)), (33, (0, 260, 261, 48)), (42, (4, 297, 298, 49))]
  | 8 => [(18, (9, 524, 525, 52))]
  | 9 => [(9, (7, 74, 75, 41)), (119, (8, 365, 366, 51))]
  | _ => []
def q_exc : Nat → List (Nat × (String × Nat × Nat × Nat))
  | 7 => [(67, ("java/lang/IllegalStateException", 69, 720, 65)), (81, ("java/lang/IllegalArgumentException", 83, 775, 62)), (98, ("java/lang/UnsupportedOperationException", 100, 828, 66)), (251, ("java/lang/IndexOutOfBoundsException", 253, 1134, 68)), (267, ("java/util/NoSuchElementException", 269, 939, 67)), (325, ("java/lang/ArithmeticException", 327, 1353, 70))]
  | _ => []
def q_hc : Nat → List (Nat × (String × Nat))
  | 9 => [(14, ("java/lang/IllegalStateException", 711)), (20, ("java/lang/IllegalArgumentException", 749)), (43, ("java/lang/UnsupportedOperationException", 811)), (80, ("java/lang/IndexOutOfBoundsException", 1172)), (82, ("java/util/NoSuchElementException", 934))]
  | _ => []
def q_cst : List (String × Nat) := [("java/lang/ArithmeticException", 1355), ("java/lang/IllegalArgumentException", 558), ("java/lang/IllegalStateException", 722), ("java/lang/IndexOutOfBoundsException", 1136), ("java/lang/UnsupportedOperationException", 830), ("java/util/NoSuchElementException", 941)]
def q_anw : Nat → List (Nat × (Nat × Nat × Nat))
  | 1 => [(9, (7, 221, 222))]
  | 6 => [(26, (5, 88, 89)), (33, (6, 133, 134))]
  | _ => []
def q_acp : Nat → List (Nat × Nat)
  | 0 => [(137, 1251)]
  | 3 => [(28, 797)]
  | 5 => [(34, 792)]
  | 6 => [(46, 166)]
  | 10 => [(150, 440)]
  | 12 => [(212, 513)]
  | _ => []
def q_mth : Nat → List (Nat × (Nat × Nat × Nat × Nat × Nat))
  | 1 => [(29, (1, 798, 438, 55, 439))]
  | 4 => [(111, (0, 1037, 420, 55, 421)), (119, (1, 1042, 438, 55, 439))]
  | 5 => [(48, (1, 1126, 438, 55, 439))]
  | 9 => [(208, (0, 1252, 420, 55, 421)), (246, (1, 1395, 438, 55, 439))]
  | 10 => [(304, (1, 437, 438, 55, 439))]
  | 16 => [(194, (0, 419, 420, 55, 421))]
  | _ => []
def q_obi : Nat → List (Nat × Nat)
  | 0 => [(3, 265)]
  | 1 => [(3, 220)]
  | 2 => [(3, 240)]
  | 3 => [(3, 139)]
  | 4 => [(3, 302)]
  | 5 => [(3, 94)]
  | 6 => [(3, 87)]
  | 7 => [(3, 79)]
  | 12 => [(1, 532)]
  | 15 => [(3, 373)]
  | _ => []
def q_mna : Nat → List (Nat × (Nat × Nat))
  | 0 => [(22, (266, 267))]
  | _ => []
def q_ldl : Nat → List (Nat × (Int64 × Nat))
  | 0 => [(131, (-1, 1247))]
  | 9 => [(251, (7, 1413)), (253, (31, 1414)), (255, (37, 1415)), (257, (41, 1416)), (259, (43, 1417)), (261, (47, 1418))]
  | _ => []
def q_lst : Nat → List (Nat × (Nat × Nat))
  | 9 => [(117, (0, 364)), (125, (1, 515)), (127, (2, 516)), (129, (3, 517)), (131, (4, 518)), (133, (5, 519)), (244, (6, 1391)), (277, (7, 1482))]
  | _ => []
def q_ldi : Nat → List (Nat × (Int32 × Nat))
  | 9 => [(7, (40503, 363))]
  | 15 => [(39, (2147483647, 426))]
  | 16 => [(200, (2147483639, 422))]
  | _ => []
def q_cln : Nat → List (Nat × Nat)
  | 10 => [(310, 430)]
  | _ => []
def q_ckc : Nat → List (Nat × Nat)
  | 10 => [(311, 436)]
  | _ => []
/-- the string constants: their places in the law, their text, their bytes -/
def q_six : Nat → Nat
  | 0 => 117
  | 1 => 125
  | 2 => 127
  | 3 => 129
  | 4 => 131
  | 5 => 133
  | 6 => 244
  | _ => 277
def q_stx : Nat → String
  | 0 => ""
  | 1 => "/"
  | 2 => "#"
  | 3 => "+"
  | 4 => "@"
  | 5 => "."
  | 6 => ".#+@"
  | _ => "..#/+@."
def q_sby : List (List Int32) := [[], [47], [35], [43], [64], [46], [46, 35, 43, 64], [46, 46, 35, 47, 43, 64, 46]]
def q_sle : List Nat := [0, 1, 1, 1, 1, 1, 4, 7]
def q_stf : Nat → List (Nat × (Nat × Nat))
  | 2 => [(44, (3, 769))]
  | 6 => [(43, (0, 164))]
  | 7 => [(205, (1, 824)), (208, (2, 826)), (364, (3, 1390))]
  | 12 => [(38, (4, 480)), (1053, (5, 458))]
  | 15 => [(18, (4, 374))]
  | _ => []
def q_lk {α : Type} : List (Nat × α) → Nat → Option α
  | [], _ => none
  | (a, b) :: t, k => bif Nat.beq a k then some b else q_lk t k
theorem q_lk_mem {α : Type} {k : Nat} {v : α} : ∀ {l : List (Nat × α)}, q_lk l k = some v → (k, v) ∈ l
  | [], h => by cases h
  | (a, b) :: t, h => by
    unfold q_lk at h
    cases e : Nat.beq a k with
    | true =>
      rw [e] at h
      have e2 : a = k := Nat.eq_of_beq_eq_true e
      have e3 : b = v := Option.some.inj h
      subst e2; subst e3
      exact List.mem_cons_self
    | false =>
      rw [e] at h
      exact List.mem_cons_of_mem _ (q_lk_mem h)
def q_cw (M : q_M) : Cond := match M.2.2.2.2.2.2.2 with | [] => Cond.code M.1 M.2.1 M.2.2.1 M.2.2.2.1 | hh => Cond.codeWith M.1 M.2.1 M.2.2.1 M.2.2.2.1 hh
/-- what the tables say of a method: its word, a plain name, its owner -/
def q_mok (M : q_M) : Prop := lw_tbl[M.2.2.2.2.2.2.1]? = some (q_cw M) ∧ plainName M.1.cls = true ∧ M.1.cls = q_nm M.2.2.2.2.1 ∧ (M.1.cls ≠ "java/lang/invoke/MethodHandle" ∧ M.1.cls ≠ "java/lang/invoke/VarHandle")
theorem q_fl_ok : ∀ o, o < 17 → ∀ x ∈ q_fl o, lw_tbl[x.2.2.2]? = some (.fieldLink (q_nm o) x.1 (q_T x.2.1 x.2.2.1).1 (q_T x.2.1 x.2.2.1).2.1 (q_T x.2.1 x.2.2.1).2.2.1) ∧ x.2.1 < 10 ∧ x.2.2.1 < q_N x.2.1 ∧ (¬ x.2.1 = 8 → (q_T x.2.1 x.2.2.1).1 = q_cnm x.2.1) := by decide +kernel
def q_calok (o : Nat) (x : Nat × Nat × Nat × q_M × Nat × Nat × Nat × Nat) : Prop :=
  (parseMethodDescriptor x.2.2.2.1.1.desc).map (fun d => d.parameters.length) = some x.2.2.1 ∧ lw_tbl[x.2.2.2.2.1]? = some (.methodLink (q_nm o) x.1 x.2.2.2.1.1) ∧ lw_tbl[x.2.2.2.2.2.2.2]? = some (.initialized x.2.2.2.1.1.cls) ∧
  lw_tbl[x.2.2.2.2.2.1]? = some (bif Nat.beq x.2.1 0 then .static x.2.2.2.1.1 else .instanceMethod x.2.2.2.1.1) ∧ (x.2.1 = 1 → lw_tbl[x.2.2.2.2.2.2.1]? = some (.selects x.2.2.2.1.1.cls x.2.2.2.1.1 x.2.2.2.1.1)) ∧ (x.2.1 = 2 → x.2.2.2.1.1.name = "<init>") ∧ (¬ x.2.1 = 0 → x.2.2.2.1.2.2.2.2.2.2.2 = [])
theorem q_cal_ok_0 : ∀ x ∈ q_cal 0, q_calok 0 x := by unfold q_calok; decide +kernel
theorem q_cal_ok_1 : ∀ x ∈ q_cal 1, q_calok 1 x := by unfold q_calok; decide +kernel
theorem q_cal_ok_2 : ∀ x ∈ q_cal 2, q_calok 2 x := by unfold q_calok; decide +kernel
theorem q_cal_ok_4 : ∀ x ∈ q_cal 4, q_calok 4 x := by unfold q_calok; decide +kernel
theorem q_cal_ok_5 : ∀ x ∈ q_cal 5, q_calok 5 x := by unfold q_calok; decide +kernel
theorem q_cal_ok_6 : ∀ x ∈ q_cal 6, q_calok 6 x := by unfold q_calok; decide +kernel
theorem q_cal_ok_7 : ∀ x ∈ q_cal 7, q_calok 7 x := by unfold q_calok; decide +kernel
theorem q_cal_ok_8 : ∀ x ∈ q_cal 8, q_calok 8 x := by unfold q_calok; decide +kernel
theorem q_cal_ok_9 : ∀ x ∈ q_cal 9, q_calok 9 x := by unfold q_calok; decide +kernel
theorem q_cal_ok_10 : ∀ x ∈ q_cal 10, q_calok 10 x := by unfold q_calok; decide +kernel
theorem q_cal_ok_12 : ∀ x ∈ q_cal 12, q_calok 12 x := by unfold q_calok; decide +kernel
theorem q_cal_ok_13 : ∀ x ∈ q_cal 13, q_calok 13 x := by unfold q_calok; decide +kernel
theorem q_cal_ok_15 : ∀ x ∈ q_cal 15, q_calok 15 x := by unfold q_calok; decide +kernel
theorem q_cal_ok : ∀ o, ∀ x ∈ q_cal o, q_calok o x := by
  intro o
  match o with
  | 0 => exact q_cal_ok_0
  | 1 => exact q_cal_ok_1
  | 2 => exact q_cal_ok_2
  | 3 => exact fun _ h => absurd h List.not_mem_nil
  | 4 => exact q_cal_ok_4
  | 5 => exact q_cal_ok_5
  | 6 => exact q_cal_ok_6
  | 7 => exact q_cal_ok_7
  | 8 => exact q_cal_ok_8
  | 9 => exact q_cal_ok_9
  | 10 => exact q_cal_ok_10
  | 11 => exact fun _ h => absurd h List.not_mem_nil
  | 12 => exact q_cal_ok_12
  | 13 => exact q_cal_ok_13
  | 14 => exact fun _ h => absurd h List.not_mem_nil
  | 15 => exact q_cal_ok_15
  | _ + 16 => exact fun _ h => absurd h List.not_mem_nil
set_option maxRecDepth 100000 in
theorem q_k_J0_coder_7d493 : q_mok q_m_J0_coder_7d493 := ⟨rfl, by decide +kernel, rfl, by decide +kernel, by decide +kernel⟩
set_option maxRecDepth 100000 in
theorem q_k_J0_isLatin1_aae02 : q_mok q_m_J0_isLatin1_aae02 := ⟨rfl, by decide +kernel, rfl, by decide +kernel, by decide +kernel⟩
set_option maxRecDepth 100000 in
theorem q_k_J3_checkIndex_8e157 : q_mok q_m_J3_checkIndex_8e157 := ⟨rfl, by decide +kernel, rfl, by decide +kernel, by decide +kernel⟩
set_option maxRecDepth 100000 in
theorem q_k_J5_getValue_6d5f1 : q_mok q_m_J5_getValue_6d5f1 := ⟨rfl, by decide +kernel, rfl, by decide +kernel, by decide +kernel⟩
set_option maxRecDepth 100000 in
theorem q_k_J5_isLatin1_aae02 : q_mok q_m_J5_isLatin1_aae02 := ⟨rfl, by decide +kernel, rfl, by decide +kernel, by decide +kernel⟩
set_option maxRecDepth 100000 in
theorem q_k_J5_length_8abf5 : q_mok q_m_J5_length_8abf5 := ⟨rfl, by decide +kernel, rfl, by decide +kernel, by decide +kernel⟩
set_option maxRecDepth 100000 in
theorem q_k_J7_checkLength_df160 : q_mok q_m_J7_checkLength_df160 := ⟨rfl, by decide +kernel, rfl, by decide +kernel, by decide +kernel⟩
set_option maxRecDepth 100000 in
theorem q_k_J7_fill_53178 : q_mok q_m_J7_fill_53178 := ⟨rfl, by decide +kernel, rfl, by decide +kernel, by decide +kernel⟩
set_option maxRecDepth 100000 in
theorem q_k_J7_fill_d0a16 : q_mok q_m_J7_fill_d0a16 := ⟨rfl, by decide +kernel, rfl, by decide +kernel, by decide +kernel⟩
set_option maxRecDepth 100000 in
theorem q_k_L_cell : q_mok q_m_L_cell := ⟨rfl, by decide +kernel, rfl, by decide +kernel, by decide +kernel⟩
set_option maxRecDepth 100000 in
theorem q_k_X0_isBetter : q_mok q_m_X0_isBetter := ⟨rfl, by decide +kernel, rfl, by decide +kernel, by decide +kernel⟩
set_option maxRecDepth 100000 in
theorem q_k_X0_noteRound : q_mok q_m_X0_noteRound := ⟨rfl, by decide +kernel, rfl, by decide +kernel, by decide +kernel⟩
set_option maxRecDepth 100000 in
theorem q_k_X2_canEndRow : q_mok q_m_X2_canEndRow := ⟨rfl, by decide +kernel, rfl, by decide +kernel, by decide +kernel⟩
set_option maxRecDepth 100000 in
theorem q_k_X2_canGrowRow : q_mok q_m_X2_canGrowRow := ⟨rfl, by decide +kernel, rfl, by decide +kernel, by decide +kernel⟩
set_option maxRecDepth 100000 in
theorem q_k_X2_endRow : q_mok q_m_X2_endRow := ⟨rfl, by decide +kernel, rfl, by decide +kernel, by decide +kernel⟩
set_option maxRecDepth 100000 in
theorem q_k_X2_isFull : q_mok q_m_X2_isFull := ⟨rfl, by decide +kernel, rfl, by decide +kernel, by decide +kernel⟩
set_option maxRecDepth 100000 in
theorem q_k_X2_kindOf : q_mok q_m_X2_kindOf := ⟨rfl, by decide +kernel, rfl, by decide +kernel, by decide +kernel⟩
set_option maxRecDepth 100000 in
theorem q_k_X3_begin : q_mok q_m_X3_begin := ⟨rfl, by decide +kernel, rfl, by decide +kernel, by decide +kernel⟩
set_option maxRecDepth 100000 in
theorem q_k_X3_isNextLine : q_mok q_m_X3_isNextLine := ⟨rfl, by decide +kernel, rfl, by decide +kernel, by decide +kernel⟩
set_option maxRecDepth 100000 in
theorem q_k_X3_linesLeft : q_mok q_m_X3_linesLeft := ⟨rfl, by decide +kernel, rfl, by decide +kernel, by decide +kernel⟩
set_option maxRecDepth 100000 in
theorem q_k_X4_canEndAt : q_mok q_m_X4_canEndAt := ⟨rfl, by decide +kernel, rfl, by decide +kernel, by decide +kernel⟩
set_option maxRecDepth 100000 in
theorem q_k_X4_isTaken : q_mok q_m_X4_isTaken := ⟨rfl, by decide +kernel, rfl, by decide +kernel, by decide +kernel⟩
set_option maxRecDepth 100000 in
theorem q_k_X4_stepsOfPath : q_mok q_m_X4_stepsOfPath := ⟨rfl, by decide +kernel, rfl, by decide +kernel, by decide +kernel⟩
set_option maxRecDepth 100000 in
theorem q_k_X4_tracePath : q_mok q_m_X4_tracePath := ⟨rfl, by decide +kernel, rfl, by decide +kernel, by decide +kernel⟩
set_option maxRecDepth 100000 in
theorem q_k_X5_begin : q_mok q_m_X5_begin := ⟨rfl, by decide +kernel, rfl, by decide +kernel, by decide +kernel⟩
set_option maxRecDepth 100000 in
theorem q_k_X5_cellAhead : q_mok q_m_X5_cellAhead := ⟨rfl, by decide +kernel, rfl, by decide +kernel, by decide +kernel⟩
set_option maxRecDepth 100000 in
theorem q_k_X5_follow : q_mok q_m_X5_follow := ⟨rfl, by decide +kernel, rfl, by decide +kernel, by decide +kernel⟩
set_option maxRecDepth 100000 in
theorem q_k_X6_cellCount : q_mok q_m_X6_cellCount := ⟨rfl, by decide +kernel, rfl, by decide +kernel, by decide +kernel⟩
set_option maxRecDepth 100000 in
theorem q_k_X6_columnOf : q_mok q_m_X6_columnOf := ⟨rfl, by decide +kernel, rfl, by decide +kernel, by decide +kernel⟩
set_option maxRecDepth 100000 in
theorem q_k_X6_isOrder : q_mok q_m_X6_isOrder := ⟨rfl, by decide +kernel, rfl, by decide +kernel, by decide +kernel⟩
set_option maxRecDepth 100000 in
theorem q_k_X6_isRobot : q_mok q_m_X6_isRobot := ⟨rfl, by decide +kernel, rfl, by decide +kernel, by decide +kernel⟩
set_option maxRecDepth 100000 in
theorem q_k_X7_refuse : q_mok q_m_X7_refuse := ⟨rfl, by decide +kernel, rfl, by decide +kernel, by decide +kernel⟩
set_option maxRecDepth 100000 in
theorem q_k_X7_signOf : q_mok q_m_X7_signOf := ⟨rfl, by decide +kernel, rfl, by decide +kernel, by decide +kernel⟩
set_option maxRecDepth 100000 in
theorem q_k_J0_checkIndex_df160 : q_mok q_m_J0_checkIndex_df160 := ⟨rfl, by decide +kernel, rfl, by decide +kernel, by decide +kernel⟩
set_option maxRecDepth 100000 in
theorem q_k_J0_getBytes_840e7 : q_mok q_m_J0_getBytes_840e7 := ⟨rfl, by decide +kernel, rfl, by decide +kernel, by decide +kernel⟩
set_option maxRecDepth 100000 in
theorem q_k_J0_length_8abf5 : q_mok q_m_J0_length_8abf5 := ⟨rfl, by decide +kernel, rfl, by decide +kernel, by decide +kernel⟩
set_option maxRecDepth 100000 in
theorem q_k_J4_length_8abf5 : q_mok q_m_J4_length_8abf5 := ⟨rfl, by decide +kernel, rfl, by decide +kernel, by decide +kernel⟩
set_option maxRecDepth 100000 in
theorem q_k_J5_inflateIfNeededFor_a7421 : q_mok q_m_J5_inflateIfNeededFor_a7421 := ⟨rfl, by decide +kernel, rfl, by decide +kernel, by decide +kernel⟩
set_option maxRecDepth 100000 in
theorem q_k_J5_init_d00df : q_mok q_m_J5_init_d00df := ⟨rfl, by decide +kernel, rfl, by decide +kernel, by decide +kernel⟩
set_option maxRecDepth 100000 in
theorem q_k_J7_copyOfRangeByte_39247 : q_mok q_m_J7_copyOfRangeByte_39247 := ⟨rfl, by decide +kernel, rfl, by decide +kernel, by decide +kernel⟩
set_option maxRecDepth 100000 in
theorem q_k_J7_copyOf_9075b : q_mok q_m_J7_copyOf_9075b := ⟨rfl, by decide +kernel, rfl, by decide +kernel, by decide +kernel⟩
set_option maxRecDepth 100000 in
theorem q_k_J8_newLength_cabcc : q_mok q_m_J8_newLength_cabcc := ⟨rfl, by decide +kernel, rfl, by decide +kernel, by decide +kernel⟩
set_option maxRecDepth 100000 in
theorem q_k_X0_init : q_mok q_m_X0_init := ⟨rfl, by decide +kernel, rfl, by decide +kernel, by decide +kernel⟩
set_option maxRecDepth 100000 in
theorem q_k_X2_findFault : q_mok q_m_X2_findFault := ⟨rfl, by decide +kernel, rfl, by decide +kernel, by decide +kernel⟩
set_option maxRecDepth 100000 in
theorem q_k_X2_init : q_mok q_m_X2_init := ⟨rfl, by decide +kernel, rfl, by decide +kernel, by decide +kernel⟩
set_option maxRecDepth 100000 in
theorem q_k_X2_take : q_mok q_m_X2_take := ⟨rfl, by decide +kernel, rfl, by decide +kernel, by decide +kernel⟩
set_option maxRecDepth 100000 in
theorem q_k_X3_copyFrom : q_mok q_m_X3_copyFrom := ⟨rfl, by decide +kernel, rfl, by decide +kernel, by decide +kernel⟩
set_option maxRecDepth 100000 in
theorem q_k_X3_init : q_mok q_m_X3_init := ⟨rfl, by decide +kernel, rfl, by decide +kernel, by decide +kernel⟩
set_option maxRecDepth 100000 in
theorem q_k_X4_changesPlaces : q_mok q_m_X4_changesPlaces := ⟨rfl, by decide +kernel, rfl, by decide +kernel, by decide +kernel⟩
set_option maxRecDepth 100000 in
theorem q_k_X4_horizon : q_mok q_m_X4_horizon := ⟨rfl, by decide +kernel, rfl, by decide +kernel, by decide +kernel⟩
set_option maxRecDepth 100000 in
theorem q_k_X4_init : q_mok q_m_X4_init := ⟨rfl, by decide +kernel, rfl, by decide +kernel, by decide +kernel⟩
set_option maxRecDepth 100000 in
theorem q_k_X5_charge : q_mok q_m_X5_charge := ⟨rfl, by decide +kernel, rfl, by decide +kernel, by decide +kernel⟩
set_option maxRecDepth 100000 in
theorem q_k_X5_copyFrom : q_mok q_m_X5_copyFrom := ⟨rfl, by decide +kernel, rfl, by decide +kernel, by decide +kernel⟩
set_option maxRecDepth 100000 in
theorem q_k_X5_goOn : q_mok q_m_X5_goOn := ⟨rfl, by decide +kernel, rfl, by decide +kernel, by decide +kernel⟩
set_option maxRecDepth 100000 in
theorem q_k_X5_init : q_mok q_m_X5_init := ⟨rfl, by decide +kernel, rfl, by decide +kernel, by decide +kernel⟩
set_option maxRecDepth 100000 in
theorem q_k_X5_isEverIn : q_mok q_m_X5_isEverIn := ⟨rfl, by decide +kernel, rfl, by decide +kernel, by decide +kernel⟩
set_option maxRecDepth 100000 in
theorem q_k_X5_lastCell : q_mok q_m_X5_lastCell := ⟨rfl, by decide +kernel, rfl, by decide +kernel, by decide +kernel⟩
set_option maxRecDepth 100000 in
theorem q_k_X6_batterySum : q_mok q_m_X6_batterySum := ⟨rfl, by decide +kernel, rfl, by decide +kernel, by decide +kernel⟩
set_option maxRecDepth 100000 in
theorem q_k_X6_dropRobot : q_mok q_m_X6_dropRobot := ⟨rfl, by decide +kernel, rfl, by decide +kernel, by decide +kernel⟩
set_option maxRecDepth 100000 in
theorem q_k_X6_freeRobot : q_mok q_m_X6_freeRobot := ⟨rfl, by decide +kernel, rfl, by decide +kernel, by decide +kernel⟩
set_option maxRecDepth 100000 in
theorem q_k_X6_isCell : q_mok q_m_X6_isCell := ⟨rfl, by decide +kernel, rfl, by decide +kernel, by decide +kernel⟩
set_option maxRecDepth 100000 in
theorem q_k_X6_isLoaded : q_mok q_m_X6_isLoaded := ⟨rfl, by decide +kernel, rfl, by decide +kernel, by decide +kernel⟩
set_option maxRecDepth 100000 in
theorem q_k_X6_isRankedBefore : q_mok q_m_X6_isRankedBefore := ⟨rfl, by decide +kernel, rfl, by decide +kernel, by decide +kernel⟩
set_option maxRecDepth 100000 in
theorem q_k_X6_latenessSum : q_mok q_m_X6_latenessSum := ⟨rfl, by decide +kernel, rfl, by decide +kernel, by decide +kernel⟩
set_option maxRecDepth 100000 in
theorem q_k_X6_neighbor : q_mok q_m_X6_neighbor := ⟨rfl, by decide +kernel, rfl, by decide +kernel, by decide +kernel⟩
set_option maxRecDepth 100000 in
theorem q_k_X6_pickedSum : q_mok q_m_X6_pickedSum := ⟨rfl, by decide +kernel, rfl, by decide +kernel, by decide +kernel⟩
set_option maxRecDepth 100000 in
theorem q_k_X6_putOrder : q_mok q_m_X6_putOrder := ⟨rfl, by decide +kernel, rfl, by decide +kernel, by decide +kernel⟩
set_option maxRecDepth 100000 in
theorem q_k_X6_putRobot : q_mok q_m_X6_putRobot := ⟨rfl, by decide +kernel, rfl, by decide +kernel, by decide +kernel⟩
set_option maxRecDepth 100000 in
theorem q_k_X6_rebuild : q_mok q_m_X6_rebuild := ⟨rfl, by decide +kernel, rfl, by decide +kernel, by decide +kernel⟩
set_option maxRecDepth 100000 in
theorem q_k_X6_robotThere : q_mok q_m_X6_robotThere := ⟨rfl, by decide +kernel, rfl, by decide +kernel, by decide +kernel⟩
set_option maxRecDepth 100000 in
theorem q_k_X6_robotWith : q_mok q_m_X6_robotWith := ⟨rfl, by decide +kernel, rfl, by decide +kernel, by decide +kernel⟩
set_option maxRecDepth 100000 in
theorem q_k_X6_stepSum : q_mok q_m_X6_stepSum := ⟨rfl, by decide +kernel, rfl, by decide +kernel, by decide +kernel⟩
set_option maxRecDepth 100000 in
theorem q_k_X7_refusesPass : q_mok q_m_X7_refusesPass := ⟨rfl, by decide +kernel, rfl, by decide +kernel, by decide +kernel⟩
set_option maxRecDepth 100000 in
theorem q_k_X7_refusesRelease : q_mok q_m_X7_refusesRelease := ⟨rfl, by decide +kernel, rfl, by decide +kernel, by decide +kernel⟩
set_option maxRecDepth 100000 in
theorem q_k_X7_refusesSet : q_mok q_m_X7_refusesSet := ⟨rfl, by decide +kernel, rfl, by decide +kernel, by decide +kernel⟩
set_option maxRecDepth 100000 in
theorem q_k_X7_refusesTakeOff : q_mok q_m_X7_refusesTakeOff := ⟨rfl, by decide +kernel, rfl, by decide +kernel, by decide +kernel⟩
set_option maxRecDepth 100000 in
theorem q_k_J1_charAt_3b067 : q_mok q_m_J1_charAt_3b067 := ⟨rfl, by decide +kernel, rfl, by decide +kernel, by decide +kernel⟩
set_option maxRecDepth 100000 in
theorem q_k_J4_init_da8c8 : q_mok q_m_J4_init_da8c8 := ⟨rfl, by decide +kernel, rfl, by decide +kernel, by decide +kernel⟩
set_option maxRecDepth 100000 in
theorem q_k_J5_newCapacity_0f7a4 : q_mok q_m_J5_newCapacity_0f7a4 := ⟨rfl, by decide +kernel, rfl, by decide +kernel, by decide +kernel⟩
set_option maxRecDepth 100000 in
theorem q_k_J5_putStringAt_47b60 : q_mok q_m_J5_putStringAt_47b60 := ⟨rfl, by decide +kernel, rfl, by decide +kernel, by decide +kernel⟩
set_option maxRecDepth 100000 in
theorem q_k_J7_copyOfRange_39247 : q_mok q_m_J7_copyOfRange_39247 := ⟨rfl, by decide +kernel, rfl, by decide +kernel, by decide +kernel⟩
set_option maxRecDepth 100000 in
theorem q_k_X0_stepsTo : q_mok q_m_X0_stepsTo := ⟨rfl, by decide +kernel, rfl, by decide +kernel, by decide +kernel⟩
set_option maxRecDepth 100000 in
theorem q_k_X5_lastTickIn : q_mok q_m_X5_lastTickIn := ⟨rfl, by decide +kernel, rfl, by decide +kernel, by decide +kernel⟩
set_option maxRecDepth 100000 in
theorem q_k_X6_canEnter : q_mok q_m_X6_canEnter := ⟨rfl, by decide +kernel, rfl, by decide +kernel, by decide +kernel⟩
set_option maxRecDepth 100000 in
theorem q_k_X6_closedCount : q_mok q_m_X6_closedCount := ⟨rfl, by decide +kernel, rfl, by decide +kernel, by decide +kernel⟩
set_option maxRecDepth 100000 in
theorem q_k_X6_copyFrom : q_mok q_m_X6_copyFrom := ⟨rfl, by decide +kernel, rfl, by decide +kernel, by decide +kernel⟩
set_option maxRecDepth 100000 in
theorem q_k_X6_endPlan : q_mok q_m_X6_endPlan := ⟨rfl, by decide +kernel, rfl, by decide +kernel, by decide +kernel⟩
set_option maxRecDepth 100000 in
theorem q_k_X6_init : q_mok q_m_X6_init := ⟨rfl, by decide +kernel, rfl, by decide +kernel, by decide +kernel⟩
set_option maxRecDepth 100000 in
theorem q_k_X6_isCellOrNone : q_mok q_m_X6_isCellOrNone := ⟨rfl, by decide +kernel, rfl, by decide +kernel, by decide +kernel⟩
set_option maxRecDepth 100000 in
theorem q_k_X6_loadedCount : q_mok q_m_X6_loadedCount := ⟨rfl, by decide +kernel, rfl, by decide +kernel, by decide +kernel⟩
set_option maxRecDepth 100000 in
theorem q_k_X6_lowestRobotEverIn : q_mok q_m_X6_lowestRobotEverIn := ⟨rfl, by decide +kernel, rfl, by decide +kernel, by decide +kernel⟩
set_option maxRecDepth 100000 in
theorem q_k_X6_stateOf : q_mok q_m_X6_stateOf := ⟨rfl, by decide +kernel, rfl, by decide +kernel, by decide +kernel⟩
set_option maxRecDepth 100000 in
theorem q_k_X6_stepCost : q_mok q_m_X6_stepCost := ⟨rfl, by decide +kernel, rfl, by decide +kernel, by decide +kernel⟩
set_option maxRecDepth 100000 in
theorem q_k_X7_refusesLine : q_mok q_m_X7_refusesLine := ⟨rfl, by decide +kernel, rfl, by decide +kernel, by decide +kernel⟩
set_option maxRecDepth 100000 in
theorem q_k_X7_refusesOpen : q_mok q_m_X7_refusesOpen := ⟨rfl, by decide +kernel, rfl, by decide +kernel, by decide +kernel⟩
set_option maxRecDepth 100000 in
theorem q_k_J0_charAt_5068e : q_mok q_m_J0_charAt_5068e := ⟨rfl, by decide +kernel, rfl, by decide +kernel, by decide +kernel⟩
set_option maxRecDepth 100000 in
theorem q_k_J0_init_db425 : q_mok q_m_J0_init_db425 := ⟨rfl, by decide +kernel, rfl, by decide +kernel, by decide +kernel⟩
set_option maxRecDepth 100000 in
theorem q_k_J5_ensureCapacityInternal_d00df : q_mok q_m_J5_ensureCapacityInternal_d00df := ⟨rfl, by decide +kernel, rfl, by decide +kernel, by decide +kernel⟩
set_option maxRecDepth 100000 in
theorem q_k_X0_measureFrom : q_mok q_m_X0_measureFrom := ⟨rfl, by decide +kernel, rfl, by decide +kernel, by decide +kernel⟩
set_option maxRecDepth 100000 in
theorem q_k_X0_nearOfNeighbors : q_mok q_m_X0_nearOfNeighbors := ⟨rfl, by decide +kernel, rfl, by decide +kernel, by decide +kernel⟩
set_option maxRecDepth 100000 in
theorem q_k_X0_openCells : q_mok q_m_X0_openCells := ⟨rfl, by decide +kernel, rfl, by decide +kernel, by decide +kernel⟩
set_option maxRecDepth 100000 in
theorem q_k_X1_giveBack : q_mok q_m_X1_giveBack := ⟨rfl, by decide +kernel, rfl, by decide +kernel, by decide +kernel⟩
set_option maxRecDepth 100000 in
theorem q_k_X1_init : q_mok q_m_X1_init := ⟨rfl, by decide +kernel, rfl, by decide +kernel, by decide +kernel⟩
set_option maxRecDepth 100000 in
theorem q_k_X1_keep : q_mok q_m_X1_keep := ⟨rfl, by decide +kernel, rfl, by decide +kernel, by decide +kernel⟩
set_option maxRecDepth 100000 in
theorem q_k_X4_canStep : q_mok q_m_X4_canStep := ⟨rfl, by decide +kernel, rfl, by decide +kernel, by decide +kernel⟩
set_option maxRecDepth 100000 in
theorem q_k_X4_noteOther : q_mok q_m_X4_noteOther := ⟨rfl, by decide +kernel, rfl, by decide +kernel, by decide +kernel⟩
set_option maxRecDepth 100000 in
theorem q_k_X6_enteredNeighbors : q_mok q_m_X6_enteredNeighbors := ⟨rfl, by decide +kernel, rfl, by decide +kernel, by decide +kernel⟩
set_option maxRecDepth 100000 in
theorem q_k_X6_ordersIn : q_mok q_m_X6_ordersIn := ⟨rfl, by decide +kernel, rfl, by decide +kernel, by decide +kernel⟩
set_option maxRecDepth 100000 in
theorem q_k_X6_tick : q_mok q_m_X6_tick := ⟨rfl, by decide +kernel, rfl, by decide +kernel, by decide +kernel⟩
set_option maxRecDepth 100000 in
theorem q_k_X6_waitingBefore : q_mok q_m_X6_waitingBefore := ⟨rfl, by decide +kernel, rfl, by decide +kernel, by decide +kernel⟩
set_option maxRecDepth 100000 in
theorem q_k_X7_refusesAssign : q_mok q_m_X7_refusesAssign := ⟨rfl, by decide +kernel, rfl, by decide +kernel, by decide +kernel⟩
set_option maxRecDepth 100000 in
theorem q_k_X7_refusesFound : q_mok q_m_X7_refusesFound := ⟨rfl, by decide +kernel, rfl, by decide +kernel, by decide +kernel⟩
set_option maxRecDepth 100000 in
theorem q_k_X7_refusesGoal : q_mok q_m_X7_refusesGoal := ⟨rfl, by decide +kernel, rfl, by decide +kernel, by decide +kernel⟩
set_option maxRecDepth 100000 in
theorem q_k_X7_refusesOrder : q_mok q_m_X7_refusesOrder := ⟨rfl, by decide +kernel, rfl, by decide +kernel, by decide +kernel⟩
set_option maxRecDepth 100000 in
theorem q_k_X7_refusesRobotsCell : q_mok q_m_X7_refusesRobotsCell := ⟨rfl, by decide +kernel, rfl, by decide +kernel, by decide +kernel⟩
set_option maxRecDepth 100000 in
theorem q_k_J0_init_81219 : q_mok q_m_J0_init_81219 := ⟨rfl, by decide +kernel, rfl, by decide +kernel, by decide +kernel⟩
set_option maxRecDepth 100000 in
theorem q_k_J5_append_cf1ce : q_mok q_m_J5_append_cf1ce := ⟨rfl, by decide +kernel, rfl, by decide +kernel, by decide +kernel⟩
set_option maxRecDepth 100000 in
theorem q_k_X0_between : q_mok q_m_X0_between := ⟨rfl, by decide +kernel, rfl, by decide +kernel, by decide +kernel⟩
set_option maxRecDepth 100000 in
theorem q_k_X0_countFrom : q_mok q_m_X0_countFrom := ⟨rfl, by decide +kernel, rfl, by decide +kernel, by decide +kernel⟩
set_option maxRecDepth 100000 in
theorem q_k_X0_farthestFrom : q_mok q_m_X0_farthestFrom := ⟨rfl, by decide +kernel, rfl, by decide +kernel, by decide +kernel⟩
set_option maxRecDepth 100000 in
theorem q_k_X0_fillTable : q_mok q_m_X0_fillTable := ⟨rfl, by decide +kernel, rfl, by decide +kernel, by decide +kernel⟩
set_option maxRecDepth 100000 in
theorem q_k_X4_canComeTo : q_mok q_m_X4_canComeTo := ⟨rfl, by decide +kernel, rfl, by decide +kernel, by decide +kernel⟩
set_option maxRecDepth 100000 in
theorem q_k_X4_prepare : q_mok q_m_X4_prepare := ⟨rfl, by decide +kernel, rfl, by decide +kernel, by decide +kernel⟩
set_option maxRecDepth 100000 in
theorem q_k_X6_waitingOrder : q_mok q_m_X6_waitingOrder := ⟨rfl, by decide +kernel, rfl, by decide +kernel, by decide +kernel⟩
set_option maxRecDepth 100000 in
theorem q_k_X7_init : q_mok q_m_X7_init := ⟨rfl, by decide +kernel, rfl, by decide +kernel, by decide +kernel⟩
set_option maxRecDepth 100000 in
theorem q_k_X7_refusesAdd : q_mok q_m_X7_refusesAdd := ⟨rfl, by decide +kernel, rfl, by decide +kernel, by decide +kernel⟩
set_option maxRecDepth 100000 in
theorem q_k_X7_refusesCancel : q_mok q_m_X7_refusesCancel := ⟨rfl, by decide +kernel, rfl, by decide +kernel, by decide +kernel⟩
set_option maxRecDepth 100000 in
theorem q_k_X7_refusesClose : q_mok q_m_X7_refusesClose := ⟨rfl, by decide +kernel, rfl, by decide +kernel, by decide +kernel⟩
set_option maxRecDepth 100000 in
theorem q_k_J4_append_15ec4 : q_mok q_m_J4_append_15ec4 := ⟨rfl, by decide +kernel, rfl, by decide +kernel, by decide +kernel⟩
set_option maxRecDepth 100000 in
theorem q_k_J4_toString_0e30d : q_mok q_m_J4_toString_0e30d := ⟨rfl, by decide +kernel, rfl, by decide +kernel, by decide +kernel⟩
set_option maxRecDepth 100000 in
theorem q_k_X0_bestRobotFor : q_mok q_m_X0_bestRobotFor := ⟨rfl, by decide +kernel, rfl, by decide +kernel, by decide +kernel⟩
set_option maxRecDepth 100000 in
theorem q_k_X0_renewTable : q_mok q_m_X0_renewTable := ⟨rfl, by decide +kernel, rfl, by decide +kernel, by decide +kernel⟩
set_option maxRecDepth 100000 in
theorem q_k_X4_cellsAfter : q_mok q_m_X4_cellsAfter := ⟨rfl, by decide +kernel, rfl, by decide +kernel, by decide +kernel⟩
set_option maxRecDepth 100000 in
theorem q_k_X4_findFirst : q_mok q_m_X4_findFirst := ⟨rfl, by decide +kernel, rfl, by decide +kernel, by decide +kernel⟩
set_option maxRecDepth 100000 in
theorem q_k_X0_betweenByTable : q_mok q_m_X0_betweenByTable := ⟨rfl, by decide +kernel, rfl, by decide +kernel, by decide +kernel⟩
set_option maxRecDepth 100000 in
theorem q_k_X4_findTickByTick : q_mok q_m_X4_findTickByTick := ⟨rfl, by decide +kernel, rfl, by decide +kernel, by decide +kernel⟩
set_option maxRecDepth 100000 in
theorem q_k_X7_account : q_mok q_m_X7_account := ⟨rfl, by decide +kernel, rfl, by decide +kernel, by decide +kernel⟩
set_option maxRecDepth 100000 in
theorem q_k_X7_add : q_mok q_m_X7_add := ⟨rfl, by decide +kernel, rfl, by decide +kernel, by decide +kernel⟩
set_option maxRecDepth 100000 in
theorem q_k_X7_append : q_mok q_m_X7_append := ⟨rfl, by decide +kernel, rfl, by decide +kernel, by decide +kernel⟩
set_option maxRecDepth 100000 in
theorem q_k_X7_arrival : q_mok q_m_X7_arrival := ⟨rfl, by decide +kernel, rfl, by decide +kernel, by decide +kernel⟩
set_option maxRecDepth 100000 in
theorem q_k_X7_arrivalAgain : q_mok q_m_X7_arrivalAgain := ⟨rfl, by decide +kernel, rfl, by decide +kernel, by decide +kernel⟩
set_option maxRecDepth 100000 in
theorem q_k_X7_assign : q_mok q_m_X7_assign := ⟨rfl, by decide +kernel, rfl, by decide +kernel, by decide +kernel⟩
set_option maxRecDepth 100000 in
theorem q_k_X7_cancel : q_mok q_m_X7_cancel := ⟨rfl, by decide +kernel, rfl, by decide +kernel, by decide +kernel⟩
set_option maxRecDepth 100000 in
theorem q_k_X7_cell : q_mok q_m_X7_cell := ⟨rfl, by decide +kernel, rfl, by decide +kernel, by decide +kernel⟩
set_option maxRecDepth 100000 in
theorem q_k_X7_close : q_mok q_m_X7_close := ⟨rfl, by decide +kernel, rfl, by decide +kernel, by decide +kernel⟩
set_option maxRecDepth 100000 in
theorem q_k_X7_distance : q_mok q_m_X7_distance := ⟨rfl, by decide +kernel, rfl, by decide +kernel, by decide +kernel⟩
set_option maxRecDepth 100000 in
theorem q_k_X7_distanceAgain : q_mok q_m_X7_distanceAgain := ⟨rfl, by decide +kernel, rfl, by decide +kernel, by decide +kernel⟩
set_option maxRecDepth 100000 in
theorem q_k_X7_farthest : q_mok q_m_X7_farthest := ⟨rfl, by decide +kernel, rfl, by decide +kernel, by decide +kernel⟩
set_option maxRecDepth 100000 in
theorem q_k_X7_lateness : q_mok q_m_X7_lateness := ⟨rfl, by decide +kernel, rfl, by decide +kernel, by decide +kernel⟩
set_option maxRecDepth 100000 in
theorem q_k_X7_layout : q_mok q_m_X7_layout := ⟨rfl, by decide +kernel, rfl, by decide +kernel, by decide +kernel⟩
set_option maxRecDepth 100000 in
theorem q_k_X7_letter : q_mok q_m_X7_letter := ⟨rfl, by decide +kernel, rfl, by decide +kernel, by decide +kernel⟩
set_option maxRecDepth 100000 in
theorem q_k_X7_line : q_mok q_m_X7_line := ⟨rfl, by decide +kernel, rfl, by decide +kernel, by decide +kernel⟩
set_option maxRecDepth 100000 in
theorem q_k_X7_loaded : q_mok q_m_X7_loaded := ⟨rfl, by decide +kernel, rfl, by decide +kernel, by decide +kernel⟩
set_option maxRecDepth 100000 in
theorem q_k_X7_open : q_mok q_m_X7_open := ⟨rfl, by decide +kernel, rfl, by decide +kernel, by decide +kernel⟩
set_option maxRecDepth 100000 in
theorem q_k_X7_order : q_mok q_m_X7_order := ⟨rfl, by decide +kernel, rfl, by decide +kernel, by decide +kernel⟩
set_option maxRecDepth 100000 in
theorem q_k_X7_orderOf : q_mok q_m_X7_orderOf := ⟨rfl, by decide +kernel, rfl, by decide +kernel, by decide +kernel⟩
set_option maxRecDepth 100000 in
theorem q_k_X7_pass : q_mok q_m_X7_pass := ⟨rfl, by decide +kernel, rfl, by decide +kernel, by decide +kernel⟩
set_option maxRecDepth 100000 in
theorem q_k_X7_plan : q_mok q_m_X7_plan := ⟨rfl, by decide +kernel, rfl, by decide +kernel, by decide +kernel⟩
set_option maxRecDepth 100000 in
theorem q_k_X7_planned : q_mok q_m_X7_planned := ⟨rfl, by decide +kernel, rfl, by decide +kernel, by decide +kernel⟩
set_option maxRecDepth 100000 in
theorem q_k_X7_reach : q_mok q_m_X7_reach := ⟨rfl, by decide +kernel, rfl, by decide +kernel, by decide +kernel⟩
set_option maxRecDepth 100000 in
theorem q_k_X7_reason : q_mok q_m_X7_reason := ⟨rfl, by decide +kernel, rfl, by decide +kernel, by decide +kernel⟩
set_option maxRecDepth 100000 in
theorem q_k_X7_release : q_mok q_m_X7_release := ⟨rfl, by decide +kernel, rfl, by decide +kernel, by decide +kernel⟩
set_option maxRecDepth 100000 in
theorem q_k_X7_reserved : q_mok q_m_X7_reserved := ⟨rfl, by decide +kernel, rfl, by decide +kernel, by decide +kernel⟩
set_option maxRecDepth 100000 in
theorem q_k_X7_robotOf : q_mok q_m_X7_robotOf := ⟨rfl, by decide +kernel, rfl, by decide +kernel, by decide +kernel⟩
set_option maxRecDepth 100000 in
theorem q_k_X7_set : q_mok q_m_X7_set := ⟨rfl, by decide +kernel, rfl, by decide +kernel, by decide +kernel⟩
set_option maxRecDepth 100000 in
theorem q_k_X7_suited : q_mok q_m_X7_suited := ⟨rfl, by decide +kernel, rfl, by decide +kernel, by decide +kernel⟩
set_option maxRecDepth 100000 in
theorem q_k_X7_takeOff : q_mok q_m_X7_takeOff := ⟨rfl, by decide +kernel, rfl, by decide +kernel, by decide +kernel⟩
set_option maxRecDepth 100000 in
theorem q_k_X7_undo : q_mok q_m_X7_undo := ⟨rfl, by decide +kernel, rfl, by decide +kernel, by decide +kernel⟩
set_option maxRecDepth 100000 in
theorem q_k_X7_waiting : q_mok q_m_X7_waiting := ⟨rfl, by decide +kernel, rfl, by decide +kernel, by decide +kernel⟩
set_option maxRecDepth 100000 in
theorem q_k_L_accounts : q_mok q_m_L_accounts := ⟨rfl, by decide +kernel, rfl, by decide +kernel, by decide +kernel⟩
set_option maxRecDepth 100000 in
theorem q_k_L_add : q_mok q_m_L_add := ⟨rfl, by decide +kernel, rfl, by decide +kernel, by decide +kernel⟩
set_option maxRecDepth 100000 in
theorem q_k_L_append : q_mok q_m_L_append := ⟨rfl, by decide +kernel, rfl, by decide +kernel, by decide +kernel⟩
set_option maxRecDepth 100000 in
theorem q_k_L_arrival : q_mok q_m_L_arrival := ⟨rfl, by decide +kernel, rfl, by decide +kernel, by decide +kernel⟩
set_option maxRecDepth 100000 in
theorem q_k_L_arrivalAgain : q_mok q_m_L_arrivalAgain := ⟨rfl, by decide +kernel, rfl, by decide +kernel, by decide +kernel⟩
set_option maxRecDepth 100000 in
theorem q_k_L_assign : q_mok q_m_L_assign := ⟨rfl, by decide +kernel, rfl, by decide +kernel, by decide +kernel⟩
set_option maxRecDepth 100000 in
theorem q_k_L_cancel : q_mok q_m_L_cancel := ⟨rfl, by decide +kernel, rfl, by decide +kernel, by decide +kernel⟩
set_option maxRecDepth 100000 in
theorem q_k_L_cells : q_mok q_m_L_cells := ⟨rfl, by decide +kernel, rfl, by decide +kernel, by decide +kernel⟩
set_option maxRecDepth 100000 in
theorem q_k_L_close : q_mok q_m_L_close := ⟨rfl, by decide +kernel, rfl, by decide +kernel, by decide +kernel⟩
set_option maxRecDepth 100000 in
theorem q_k_L_distance : q_mok q_m_L_distance := ⟨rfl, by decide +kernel, rfl, by decide +kernel, by decide +kernel⟩
set_option maxRecDepth 100000 in
theorem q_k_L_distanceAgain : q_mok q_m_L_distanceAgain := ⟨rfl, by decide +kernel, rfl, by decide +kernel, by decide +kernel⟩
set_option maxRecDepth 100000 in
theorem q_k_L_layout : q_mok q_m_L_layout := ⟨rfl, by decide +kernel, rfl, by decide +kernel, by decide +kernel⟩
set_option maxRecDepth 100000 in
theorem q_k_L_open : q_mok q_m_L_open := ⟨rfl, by decide +kernel, rfl, by decide +kernel, by decide +kernel⟩
set_option maxRecDepth 100000 in
theorem q_k_L_order : q_mok q_m_L_order := ⟨rfl, by decide +kernel, rfl, by decide +kernel, by decide +kernel⟩
set_option maxRecDepth 100000 in
theorem q_k_L_pass : q_mok q_m_L_pass := ⟨rfl, by decide +kernel, rfl, by decide +kernel, by decide +kernel⟩
set_option maxRecDepth 100000 in
theorem q_k_L_plan : q_mok q_m_L_plan := ⟨rfl, by decide +kernel, rfl, by decide +kernel, by decide +kernel⟩
set_option maxRecDepth 100000 in
theorem q_k_L_reason : q_mok q_m_L_reason := ⟨rfl, by decide +kernel, rfl, by decide +kernel, by decide +kernel⟩
set_option maxRecDepth 100000 in
theorem q_k_L_release : q_mok q_m_L_release := ⟨rfl, by decide +kernel, rfl, by decide +kernel, by decide +kernel⟩
set_option maxRecDepth 100000 in
theorem q_k_L_set : q_mok q_m_L_set := ⟨rfl, by decide +kernel, rfl, by decide +kernel, by decide +kernel⟩
set_option maxRecDepth 100000 in
theorem q_k_L_suited : q_mok q_m_L_suited := ⟨rfl, by decide +kernel, rfl, by decide +kernel, by decide +kernel⟩
set_option maxRecDepth 100000 in
theorem q_k_L_takeOff : q_mok q_m_L_takeOff := ⟨rfl, by decide +kernel, rfl, by decide +kernel, by decide +kernel⟩
set_option maxRecDepth 100000 in
theorem q_k_L_undo : q_mok q_m_L_undo := ⟨rfl, by decide +kernel, rfl, by decide +kernel, by decide +kernel⟩
set_option maxRecDepth 100000 in
theorem q_k_L_waiting : q_mok q_m_L_waiting := ⟨rfl, by decide +kernel, rfl, by decide +kernel, by decide +kernel⟩
set_option maxRecDepth 100000 in
theorem q_k_L_arrivals : q_mok q_m_L_arrivals := ⟨rfl, by decide +kernel, rfl, by decide +kernel, by decide +kernel⟩
set_option maxRecDepth 100000 in
theorem q_k_L_distances : q_mok q_m_L_distances := ⟨rfl, by decide +kernel, rfl, by decide +kernel, by decide +kernel⟩
set_option maxRecDepth 100000 in
theorem q_k_L_layout_ : q_mok q_m_L_layout_ := ⟨rfl, by decide +kernel, rfl, by decide +kernel, by decide +kernel⟩
set_option maxRecDepth 100000 in
theorem q_k_L_letters : q_mok q_m_L_letters := ⟨rfl, by decide +kernel, rfl, by decide +kernel, by decide +kernel⟩
set_option maxRecDepth 100000 in
theorem q_k_L_orders : q_mok q_m_L_orders := ⟨rfl, by decide +kernel, rfl, by decide +kernel, by decide +kernel⟩
set_option maxRecDepth 100000 in
theorem q_k_L_plans : q_mok q_m_L_plans := ⟨rfl, by decide +kernel, rfl, by decide +kernel, by decide +kernel⟩
set_option maxRecDepth 100000 in
theorem q_k_L_sum : q_mok q_m_L_sum := ⟨rfl, by decide +kernel, rfl, by decide +kernel, by decide +kernel⟩
set_option maxRecDepth 100000 in
theorem q_k_L_drawn : q_mok q_m_L_drawn := ⟨rfl, by decide +kernel, rfl, by decide +kernel, by decide +kernel⟩
set_option maxRecDepth 100000 in
theorem q_k_L_goesOn : q_mok q_m_L_goesOn := ⟨rfl, by decide +kernel, rfl, by decide +kernel, by decide +kernel⟩
set_option maxRecDepth 100000 in
theorem q_k_L_undone : q_mok q_m_L_undone := ⟨rfl, by decide +kernel, rfl, by decide +kernel, by decide +kernel⟩
theorem q_mo_0 : ∀ x ∈ q_cal 0, q_mok x.2.2.2.1 := by
  unfold q_cal
  exact List.forall_mem_cons.mpr ⟨q_k_X0_measureFrom, List.forall_mem_cons.mpr ⟨q_k_X0_stepsTo, List.forall_mem_cons.mpr ⟨q_k_X6_isCell, List.forall_mem_cons.mpr ⟨q_k_J7_fill_53178, List.forall_mem_cons.mpr ⟨q_k_X6_neighbor, List.forall_mem_cons.mpr ⟨q_k_X6_canEnter, List.forall_mem_cons.mpr ⟨q_k_X6_isRobot, List.forall_mem_cons.mpr ⟨q_k_X0_between, List.forall_mem_cons.mpr ⟨q_k_X0_isBetter, List.forall_mem_cons.mpr ⟨q_k_X0_renewTable, List.forall_mem_cons.mpr ⟨q_k_X0_openCells, List.forall_mem_cons.mpr ⟨q_k_X0_fillTable, List.forall_mem_cons.mpr ⟨q_k_X0_nearOfNeighbors, List.forall_mem_cons.mpr ⟨q_k_X0_noteRound, fun _ h => absurd h List.not_mem_nil⟩⟩⟩⟩⟩⟩⟩⟩⟩⟩⟩⟩⟩⟩
theorem q_mo_1 : ∀ x ∈ q_cal 1, q_mok x.2.2.2.1 := by
  unfold q_cal
  exact List.forall_mem_cons.mpr ⟨q_k_X6_init, List.forall_mem_cons.mpr ⟨q_k_X6_copyFrom, fun _ h => absurd h List.not_mem_nil⟩⟩
theorem q_mo_2 : ∀ x ∈ q_cal 2, q_mok x.2.2.2.1 := by
  unfold q_cal
  exact List.forall_mem_cons.mpr ⟨q_k_X2_isFull, List.forall_mem_cons.mpr ⟨q_k_X2_canEndRow, List.forall_mem_cons.mpr ⟨q_k_X2_endRow, List.forall_mem_cons.mpr ⟨q_k_X2_kindOf, List.forall_mem_cons.mpr ⟨q_k_X2_canGrowRow, fun _ h => absurd h List.not_mem_nil⟩⟩⟩⟩⟩
theorem q_mo_4 : ∀ x ∈ q_cal 4, q_mok x.2.2.2.1 := by
  unfold q_cal
  exact List.forall_mem_cons.mpr ⟨q_k_X4_prepare, List.forall_mem_cons.mpr ⟨q_k_J7_fill_53178, List.forall_mem_cons.mpr ⟨q_k_X4_horizon, List.forall_mem_cons.mpr ⟨q_k_X6_neighbor, List.forall_mem_cons.mpr ⟨q_k_X4_canStep, List.forall_mem_cons.mpr ⟨q_k_X4_canEndAt, List.forall_mem_cons.mpr ⟨q_k_X4_tracePath, List.forall_mem_cons.mpr ⟨q_k_X4_cellsAfter, List.forall_mem_cons.mpr ⟨q_k_X6_isCell, List.forall_mem_cons.mpr ⟨q_k_X4_canComeTo, List.forall_mem_cons.mpr ⟨q_k_X6_isRobot, List.forall_mem_cons.mpr ⟨q_k_X6_canEnter, List.forall_mem_cons.mpr ⟨q_k_J7_fill_d0a16, List.forall_mem_cons.mpr ⟨q_k_X4_noteOther, List.forall_mem_cons.mpr ⟨q_k_X5_cellAhead, List.forall_mem_cons.mpr ⟨q_k_X5_lastTickIn, List.forall_mem_cons.mpr ⟨q_k_X4_isTaken, List.forall_mem_cons.mpr ⟨q_k_X4_changesPlaces, fun _ h => absurd h List.not_mem_nil⟩⟩⟩⟩⟩⟩⟩⟩⟩⟩⟩⟩⟩⟩⟩⟩⟩⟩
theorem q_mo_5 : ∀ x ∈ q_cal 5, q_mok x.2.2.2.1 := by
  unfold q_cal
  exact List.forall_mem_cons.mpr ⟨q_k_X5_cellAhead, List.forall_mem_cons.mpr ⟨q_k_X5_lastCell, fun _ h => absurd h List.not_mem_nil⟩⟩
theorem q_mo_6 : ∀ x ∈ q_cal 6, q_mok x.2.2.2.1 := by
  unfold q_cal
  exact List.forall_mem_cons.mpr ⟨q_k_X5_init, List.forall_mem_cons.mpr ⟨q_k_X3_init, List.forall_mem_cons.mpr ⟨q_k_X5_copyFrom, List.forall_mem_cons.mpr ⟨q_k_X3_copyFrom, List.forall_mem_cons.mpr ⟨q_k_X2_kindOf, List.forall_mem_cons.mpr ⟨q_k_X6_cellCount, List.forall_mem_cons.mpr ⟨q_k_X6_isCell, List.forall_mem_cons.mpr ⟨q_k_X6_columnOf, List.forall_mem_cons.mpr ⟨q_k_X6_neighbor, List.forall_mem_cons.mpr ⟨q_k_X6_canEnter, List.forall_mem_cons.mpr ⟨q_k_X5_begin, List.forall_mem_cons.mpr ⟨q_k_X6_isRobot, List.forall_mem_cons.mpr ⟨q_k_X3_begin, List.forall_mem_cons.mpr ⟨q_k_X6_isOrder, List.forall_mem_cons.mpr ⟨q_k_X5_cellAhead, List.forall_mem_cons.mpr ⟨q_k_X5_isEverIn, List.forall_mem_cons.mpr ⟨q_k_X6_robotWith, List.forall_mem_cons.mpr ⟨q_k_X6_stateOf, List.forall_mem_cons.mpr ⟨q_k_X6_waitingBefore, List.forall_mem_cons.mpr ⟨q_k_X6_isRankedBefore, List.forall_mem_cons.mpr ⟨q_k_X3_linesLeft, List.forall_mem_cons.mpr ⟨q_k_X6_isLoaded, List.forall_mem_cons.mpr ⟨q_k_X5_goOn, List.forall_mem_cons.mpr ⟨q_k_X6_endPlan, List.forall_mem_cons.mpr ⟨q_k_X5_charge, List.forall_mem_cons.mpr ⟨q_k_X3_isNextLine, fun _ h => absurd h List.not_mem_nil⟩⟩⟩⟩⟩⟩⟩⟩⟩⟩⟩⟩⟩⟩⟩⟩⟩⟩⟩⟩⟩⟩⟩⟩⟩⟩
theorem q_mo_7 : ∀ x ∈ q_cal 7, q_mok x.2.2.2.1 := by
  unfold q_cal
  exact List.forall_mem_cons.mpr ⟨q_k_X6_init, List.forall_mem_cons.mpr ⟨q_k_X1_init, List.forall_mem_cons.mpr ⟨q_k_X2_init, List.forall_mem_cons.mpr ⟨q_k_X0_init, List.forall_mem_cons.mpr ⟨q_k_X4_init, List.forall_mem_cons.mpr ⟨q_k_X2_isFull, List.forall_mem_cons.mpr ⟨q_k_X2_take, List.forall_mem_cons.mpr ⟨q_k_X2_findFault, List.forall_mem_cons.mpr ⟨q_k_X1_keep, List.forall_mem_cons.mpr ⟨q_k_X6_rebuild, List.forall_mem_cons.mpr ⟨q_k_X6_cellCount, List.forall_mem_cons.mpr ⟨q_k_X7_refusesAdd, List.forall_mem_cons.mpr ⟨q_k_X6_putRobot, List.forall_mem_cons.mpr ⟨q_k_X6_isCell, List.forall_mem_cons.mpr ⟨q_k_X7_refuse, List.forall_mem_cons.mpr ⟨q_k_X6_canEnter, List.forall_mem_cons.mpr ⟨q_k_X7_refusesRobotsCell, List.forall_mem_cons.mpr ⟨q_k_X7_refusesTakeOff, List.forall_mem_cons.mpr ⟨q_k_X6_dropRobot, List.forall_mem_cons.mpr ⟨q_k_X6_isRobot, List.forall_mem_cons.mpr ⟨q_k_X7_refusesOrder, List.forall_mem_cons.mpr ⟨q_k_X6_putOrder, List.forall_mem_cons.mpr ⟨q_k_X6_isCellOrNone, List.forall_mem_cons.mpr ⟨q_k_X7_refusesLine, List.forall_mem_cons.mpr ⟨q_k_X7_refusesAssign, List.forall_mem_cons.mpr ⟨q_k_X3_linesLeft, List.forall_mem_cons.mpr ⟨q_k_X6_isOrder, List.forall_mem_cons.mpr ⟨q_k_X6_stateOf, List.forall_mem_cons.mpr ⟨q_k_X7_refusesRelease, List.forall_mem_cons.mpr ⟨q_k_X6_freeRobot, List.forall_mem_cons.mpr ⟨q_k_X7_refusesClose, List.forall_mem_cons.mpr ⟨q_k_X6_closedCount, List.forall_mem_cons.mpr ⟨q_k_X7_refusesOpen, List.forall_mem_cons.mpr ⟨q_k_X7_refusesSet, List.forall_mem_cons.mpr ⟨q_k_X7_refusesGoal, List.forall_mem_cons.mpr ⟨q_k_X4_findFirst, List.forall_mem_cons.mpr ⟨q_k_X7_refusesFound, List.forall_mem_cons.mpr ⟨q_k_X6_stepCost, List.forall_mem_cons.mpr ⟨q_k_X5_follow, List.forall_mem_cons.mpr ⟨q_k_X4_stepsOfPath, List.forall_mem_cons.mpr ⟨q_k_X7_refusesCancel, List.forall_mem_cons.mpr ⟨q_k_X7_refusesPass, List.forall_mem_cons.mpr ⟨q_k_X6_tick, List.forall_mem_cons.mpr ⟨q_k_X6_robotThere, List.forall_mem_cons.mpr ⟨q_k_X6_enteredNeighbors, List.forall_mem_cons.mpr ⟨q_k_X7_signOf, List.forall_mem_cons.mpr ⟨q_k_X0_between, List.forall_mem_cons.mpr ⟨q_k_X0_betweenByTable, List.forall_mem_cons.mpr ⟨q_k_X0_countFrom, List.forall_mem_cons.mpr ⟨q_k_X0_farthestFrom, List.forall_mem_cons.mpr ⟨q_k_X5_lastCell, List.forall_mem_cons.mpr ⟨q_k_X6_isLoaded, List.forall_mem_cons.mpr ⟨q_k_X5_cellAhead, List.forall_mem_cons.mpr ⟨q_k_X4_findTickByTick, List.forall_mem_cons.mpr ⟨q_k_X6_robotWith, List.forall_mem_cons.mpr ⟨q_k_X6_ordersIn, List.forall_mem_cons.mpr ⟨q_k_X6_waitingOrder, List.forall_mem_cons.mpr ⟨q_k_X0_bestRobotFor, List.forall_mem_cons.mpr ⟨q_k_X6_loadedCount, List.forall_mem_cons.mpr ⟨q_k_X6_latenessSum, List.forall_mem_cons.mpr ⟨q_k_X6_stepSum, List.forall_mem_cons.mpr ⟨q_k_X6_pickedSum, List.forall_mem_cons.mpr ⟨q_k_X6_batterySum, List.forall_mem_cons.mpr ⟨q_k_X1_giveBack, List.forall_mem_cons.mpr ⟨q_k_X6_lowestRobotEverIn, fun _ h => absurd h List.not_mem_nil⟩⟩⟩⟩⟩⟩⟩⟩⟩⟩⟩⟩⟩⟩⟩⟩⟩⟩⟩⟩⟩⟩⟩⟩⟩⟩⟩⟩⟩⟩⟩⟩⟩⟩⟩⟩⟩⟩⟩⟩⟩⟩⟩⟩⟩⟩⟩⟩⟩⟩⟩⟩⟩⟩⟩⟩⟩⟩⟩⟩⟩⟩⟩⟩⟩
theorem q_mo_8 : ∀ x ∈ q_cal 8, q_mok x.2.2.2.1 := by
  unfold q_cal
  exact List.forall_mem_cons.mpr ⟨q_k_J5_init_d00df, List.forall_mem_cons.mpr ⟨q_k_J0_init_81219, fun _ h => absurd h List.not_mem_nil⟩⟩
theorem q_mo_9 : ∀ x ∈ q_cal 9, q_mok x.2.2.2.1 := by
  unfold q_cal
  exact List.forall_mem_cons.mpr ⟨q_k_X7_append, List.forall_mem_cons.mpr ⟨q_k_X7_layout, List.forall_mem_cons.mpr ⟨q_k_J0_length_8abf5, List.forall_mem_cons.mpr ⟨q_k_J0_charAt_5068e, List.forall_mem_cons.mpr ⟨q_k_L_append, List.forall_mem_cons.mpr ⟨q_k_L_layout, List.forall_mem_cons.mpr ⟨q_k_X7_add, List.forall_mem_cons.mpr ⟨q_k_X7_takeOff, List.forall_mem_cons.mpr ⟨q_k_X7_order, List.forall_mem_cons.mpr ⟨q_k_X7_assign, List.forall_mem_cons.mpr ⟨q_k_X7_release, List.forall_mem_cons.mpr ⟨q_k_X7_close, List.forall_mem_cons.mpr ⟨q_k_X7_open, List.forall_mem_cons.mpr ⟨q_k_X7_set, List.forall_mem_cons.mpr ⟨q_k_X7_plan, List.forall_mem_cons.mpr ⟨q_k_X7_cancel, List.forall_mem_cons.mpr ⟨q_k_X7_pass, List.forall_mem_cons.mpr ⟨q_k_X7_distance, List.forall_mem_cons.mpr ⟨q_k_X7_distanceAgain, List.forall_mem_cons.mpr ⟨q_k_X7_arrival, List.forall_mem_cons.mpr ⟨q_k_X7_arrivalAgain, List.forall_mem_cons.mpr ⟨q_k_X7_suited, List.forall_mem_cons.mpr ⟨q_k_X7_waiting, List.forall_mem_cons.mpr ⟨q_k_X7_reason, List.forall_mem_cons.mpr ⟨q_k_X7_undo, List.forall_mem_cons.mpr ⟨q_k_X7_account, List.forall_mem_cons.mpr ⟨q_k_X7_init, List.forall_mem_cons.mpr ⟨q_k_L_cell, List.forall_mem_cons.mpr ⟨q_k_J4_init_da8c8, List.forall_mem_cons.mpr ⟨q_k_J4_append_15ec4, List.forall_mem_cons.mpr ⟨q_k_J4_toString_0e30d, List.forall_mem_cons.mpr ⟨q_k_L_layout_, List.forall_mem_cons.mpr ⟨q_k_L_set, List.forall_mem_cons.mpr ⟨q_k_L_cells, List.forall_mem_cons.mpr ⟨q_k_L_add, List.forall_mem_cons.mpr ⟨q_k_L_reason, List.forall_mem_cons.mpr ⟨q_k_L_order, List.forall_mem_cons.mpr ⟨q_k_L_assign, List.forall_mem_cons.mpr ⟨q_k_L_plan, List.forall_mem_cons.mpr ⟨q_k_L_pass, List.forall_mem_cons.mpr ⟨q_k_L_drawn, List.forall_mem_cons.mpr ⟨q_k_L_plans, List.forall_mem_cons.mpr ⟨q_k_L_distances, List.forall_mem_cons.mpr ⟨q_k_L_arrivals, List.forall_mem_cons.mpr ⟨q_k_L_orders, List.forall_mem_cons.mpr ⟨q_k_L_accounts, List.forall_mem_cons.mpr ⟨q_k_L_letters, List.forall_mem_cons.mpr ⟨q_k_L_goesOn, List.forall_mem_cons.mpr ⟨q_k_L_undone, List.forall_mem_cons.mpr ⟨q_k_X7_planned, List.forall_mem_cons.mpr ⟨q_k_X7_cell, List.forall_mem_cons.mpr ⟨q_k_X7_reserved, List.forall_mem_cons.mpr ⟨q_k_L_distance, List.forall_mem_cons.mpr ⟨q_k_X7_robotOf, List.forall_mem_cons.mpr ⟨q_k_L_distanceAgain, List.forall_mem_cons.mpr ⟨q_k_X7_reach, List.forall_mem_cons.mpr ⟨q_k_X7_farthest, List.forall_mem_cons.mpr ⟨q_k_L_arrival, List.forall_mem_cons.mpr ⟨q_k_L_arrivalAgain, List.forall_mem_cons.mpr ⟨q_k_L_waiting, List.forall_mem_cons.mpr ⟨q_k_X7_orderOf, List.forall_mem_cons.mpr ⟨q_k_X7_line, List.forall_mem_cons.mpr ⟨q_k_L_suited, List.forall_mem_cons.mpr ⟨q_k_X7_loaded, List.forall_mem_cons.mpr ⟨q_k_X7_lateness, List.forall_mem_cons.mpr ⟨q_k_X7_letter, List.forall_mem_cons.mpr ⟨q_k_L_undo, List.forall_mem_cons.mpr ⟨q_k_L_sum, List.forall_mem_cons.mpr ⟨q_k_L_takeOff, List.forall_mem_cons.mpr ⟨q_k_L_release, List.forall_mem_cons.mpr ⟨q_k_L_close, List.forall_mem_cons.mpr ⟨q_k_L_open, List.forall_mem_cons.mpr ⟨q_k_L_cancel, fun _ h => absurd h List.not_mem_nil⟩⟩⟩⟩⟩⟩⟩⟩⟩⟩⟩⟩⟩⟩⟩⟩⟩⟩⟩⟩⟩⟩⟩⟩⟩⟩⟩⟩⟩⟩⟩⟩⟩⟩⟩⟩⟩⟩⟩⟩⟩⟩⟩⟩⟩⟩⟩⟩⟩⟩⟩⟩⟩⟩⟩⟩⟩⟩⟩⟩⟩⟩⟩⟩⟩⟩⟩⟩⟩⟩⟩⟩⟩
theorem q_mo_10 : ∀ x ∈ q_cal 10, q_mok x.2.2.2.1 := by
  unfold q_cal
  exact List.forall_mem_cons.mpr ⟨q_k_J7_copyOfRangeByte_39247, List.forall_mem_cons.mpr ⟨q_k_J7_checkLength_df160, fun _ h => absurd h List.not_mem_nil⟩⟩
theorem q_mo_12 : ∀ x ∈ q_cal 12, q_mok x.2.2.2.1 := by
  unfold q_cal
  exact List.forall_mem_cons.mpr ⟨q_k_J7_copyOfRange_39247, List.forall_mem_cons.mpr ⟨q_k_J0_coder_7d493, List.forall_mem_cons.mpr ⟨q_k_J0_init_db425, List.forall_mem_cons.mpr ⟨q_k_J0_isLatin1_aae02, List.forall_mem_cons.mpr ⟨q_k_J1_charAt_3b067, List.forall_mem_cons.mpr ⟨q_k_J3_checkIndex_8e157, fun _ h => absurd h List.not_mem_nil⟩⟩⟩⟩⟩⟩
theorem q_mo_13 : ∀ x ∈ q_cal 13, q_mok x.2.2.2.1 := by
  unfold q_cal
  exact List.forall_mem_cons.mpr ⟨q_k_J0_checkIndex_df160, fun _ h => absurd h List.not_mem_nil⟩
theorem q_mo_15 : ∀ x ∈ q_cal 15, q_mok x.2.2.2.1 := by
  unfold q_cal
  exact List.forall_mem_cons.mpr ⟨q_k_J0_length_8abf5, List.forall_mem_cons.mpr ⟨q_k_J0_coder_7d493, List.forall_mem_cons.mpr ⟨q_k_J7_copyOf_9075b, List.forall_mem_cons.mpr ⟨q_k_J8_newLength_cabcc, List.forall_mem_cons.mpr ⟨q_k_J0_getBytes_840e7, fun _ h => absurd h List.not_mem_nil⟩⟩⟩⟩⟩
theorem q_mo : ∀ o, ∀ x ∈ q_cal o, q_mok x.2.2.2.1 := by
  intro o
  match o with
  | 0 => exact q_mo_0
  | 1 => exact q_mo_1
  | 2 => exact q_mo_2
  | 3 => exact fun _ h => absurd h List.not_mem_nil
  | 4 => exact q_mo_4
  | 5 => exact q_mo_5
  | 6 => exact q_mo_6
  | 7 => exact q_mo_7
  | 8 => exact q_mo_8
  | 9 => exact q_mo_9
  | 10 => exact q_mo_10
  | 11 => exact fun _ h => absurd h List.not_mem_nil
  | 12 => exact q_mo_12
  | 13 => exact q_mo_13
  | 14 => exact fun _ h => absurd h List.not_mem_nil
  | 15 => exact q_mo_15
  | _ + 16 => exact fun _ h => absurd h List.not_mem_nil
theorem q_new_ok : ∀ o, o < 17 → ∀ x ∈ q_new o, lw_tbl[x.2.2.1]? = some (.classLink (q_nm o) x.1 (q_cnm x.2.1)) ∧ lw_tbl[x.2.2.2.1]? = some (.instantiable (q_cnm x.2.1) (q_N x.2.1)) ∧ lw_tbl[x.2.2.2.2]? = some (.initialized (q_cnm x.2.1)) ∧ x.2.1 < 10 := by decide +kernel
theorem q_hc_ok : ∀ x ∈ q_hc 9, lw_tbl[x.2.2]? = some (.classLink (q_nm 9) x.1 x.2.1) := by decide +kernel
theorem q_cst_ok : ∀ x ∈ q_cst, lw_tbl[x.2]? = some (.castable x.1 x.1) := by decide +kernel
theorem q_acp_ok : ∀ o, o < 17 → ∀ x ∈ q_acp o, lw_tbl[x.2]? = some (.methodLink (q_nm o) x.1 arraycopyName) := by decide +kernel
theorem q_mth_ok : ∀ o, o < 17 → ∀ x ∈ q_mth o, x.2.1 < 2 ∧ lw_tbl[x.2.2.1]? = some (.methodLink (q_nm o) x.1 (bif Nat.beq x.2.1 0 then Lib.Math.max.name else Lib.Math.min.name)) ∧ lw_tbl[x.2.2.2.1]? = some (.static (bif Nat.beq x.2.1 0 then Lib.Math.max.name else Lib.Math.min.name)) ∧ lw_tbl[x.2.2.2.2.1]? = some (.initialized "java/lang/Math") ∧ lw_tbl[x.2.2.2.2.2]? = some (bif Nat.beq x.2.1 0 then .code Lib.Math.max.name Lib.Math.max.code 2 (some .int) else .code Lib.Math.min.name Lib.Math.min.code 2 (some .int)) := by decide +kernel
theorem q_obi_ok : ∀ o, o < 17 → ∀ x ∈ q_obi o, lw_tbl[x.2]? = some (.methodLink (q_nm o) x.1 objectInit) := by decide +kernel
theorem q_ldl_ok : ∀ o, o < 17 → ∀ x ∈ q_ldl o, lw_tbl[x.2.2]? = some (.constantLong (q_nm o) x.1 x.2.1) := by decide +kernel
theorem q_ws_ok : ∀ c, c < 10 → ∀ w ∈ u_ws (q_cnm c) (q_T c) (q_N c), w ∈ lw_tbl := by decide +kernel
theorem q_nm_ok : ∀ c, c < 10 → ∀ a, a < q_N c → ∀ b, b < q_N c → a ≠ b → (q_T c a).2.1 ≠ (q_T c b).2.1 := by decide +kernel
theorem q_ty_ok : ∀ c, c < 10 → ∀ k, k < q_N c → parseFieldDescriptor (q_T c k).2.2.1 = some (q_ty c k) := by decide +kernel
theorem q_cls_ok : ∀ c, c < 10 → q_cls[c]? = some (q_cnm c, q_T c, q_N c) := by
  intro c hc
  match c, hc with
  | 0, _ => rfl
  | 1, _ => rfl
  | 2, _ => rfl
  | 3, _ => rfl
  | 4, _ => rfl
  | 5, _ => rfl
  | 6, _ => rfl
  | 7, _ => rfl
  | 8, _ => rfl
  | 9, _ => rfl
theorem q_cav_ok : ∀ o, o < 17 → ∀ x ∈ q_cav o, (parseMethodDescriptor x.2.2.2.1.desc).map (fun d => d.parameters.length) = some x.2.2.1 ∧ lw_tbl[x.2.2.2.2.2.1]? = some (.methodLink (q_nm o) x.1 x.2.2.2.1) ∧ lw_tbl[x.2.2.2.2.2.2.1]? = some (.instanceMethod x.2.2.2.2.1.1) ∧ lw_tbl[x.2.2.2.2.2.2.2.2.1]? = some (.initialized x.2.2.2.2.1.1.cls) ∧ lw_tbl[x.2.2.2.2.2.2.2.2.2.1]? = some (.sameMethod x.2.2.2.1.cls x.2.2.2.1.cls x.2.2.2.1.name x.2.2.2.1.desc) := by decide +kernel
theorem q_cav_o2 : ∀ o, o < 17 → ∀ x ∈ q_cav o, (lw_tbl[x.2.2.2.2.2.2.2.2.2.2]?.any fun w => match w with | .code y _ _ _ => y == x.2.2.2.1 | _ => false) = true ∧ (x.2.1 = 3 ∨ x.2.1 = 4) ∧ (x.2.1 = 3 → lw_tbl[x.2.2.2.2.2.2.2.1]? = some (.selects RJ4 x.2.2.2.1 x.2.2.2.2.1.1)) ∧ (x.2.1 = 4 → x.2.2.2.1 = x.2.2.2.2.1.1 ∧ lw_tbl[x.2.2.2.2.2.2.2.1]? = some (.superclass (q_nm o) x.2.2.2.1.cls)) := by decide +kernel
theorem q_cav_o3 : ∀ o, o < 17 → ∀ x ∈ q_cav o, ¬ x.2.2.2.1.name = "<init>" ∧ ¬ x.2.2.2.1.cls = "java/lang/invoke/MethodHandle" ∧ ¬ x.2.2.2.1.cls = "java/lang/invoke/VarHandle" := by decide +kernel
theorem q_cav_o4 : ∀ o, o < 17 → ∀ x ∈ q_cav o, x.2.2.2.2.1.2.2.2.2.2.2.2.isEmpty = true ∧ x.2.2.2.2.1.2.2.1 ≤ 40 := by decide +kernel
theorem q_mov : ∀ o, ∀ x ∈ q_cav o, q_mok x.2.2.2.2.1 := by
  intro o
  match o with
  | 0 => exact fun _ h => absurd h List.not_mem_nil
  | 1 => exact fun _ h => absurd h List.not_mem_nil
  | 2 => exact fun _ h => absurd h List.not_mem_nil
  | 3 => exact fun _ h => absurd h List.not_mem_nil
  | 4 => exact fun _ h => absurd h List.not_mem_nil
  | 5 => exact fun _ h => absurd h List.not_mem_nil
  | 6 => exact fun _ h => absurd h List.not_mem_nil
  | 7 => exact fun _ h => absurd h List.not_mem_nil
  | 8 => exact List.forall_mem_cons.mpr ⟨q_k_J5_append_cf1ce, List.forall_mem_cons.mpr ⟨q_k_J5_length_8abf5, fun _ h => absurd h List.not_mem_nil⟩⟩
  | 9 => exact fun _ h => absurd h List.not_mem_nil
  | 10 => exact fun _ h => absurd h List.not_mem_nil
  | 11 => exact fun _ h => absurd h List.not_mem_nil
  | 12 => exact List.forall_mem_cons.mpr ⟨q_k_J4_length_8abf5, List.forall_mem_cons.mpr ⟨q_k_J5_getValue_6d5f1, List.forall_mem_cons.mpr ⟨q_k_J5_isLatin1_aae02, fun _ h => absurd h List.not_mem_nil⟩⟩⟩
  | 13 => exact fun _ h => absurd h List.not_mem_nil
  | 14 => exact fun _ h => absurd h List.not_mem_nil
  | 15 => exact List.forall_mem_cons.mpr ⟨q_k_J5_ensureCapacityInternal_d00df, List.forall_mem_cons.mpr ⟨q_k_J5_newCapacity_0f7a4, List.forall_mem_cons.mpr ⟨q_k_J5_putStringAt_47b60, List.forall_mem_cons.mpr ⟨q_k_J5_inflateIfNeededFor_a7421, fun _ h => absurd h List.not_mem_nil⟩⟩⟩⟩
  | _ + 16 => exact fun _ h => absurd h List.not_mem_nil
theorem q_lst_ok : ∀ o, o < 17 → ∀ x ∈ q_lst o, o = 9 ∧ x.2.1 < 8 ∧ q_six x.2.1 = x.1 ∧ lw_tbl[x.2.2]? = some (.stringRef (q_nm o) x.1 (q_stx x.2.1)) := by decide +kernel
theorem q_ldi_ok : ∀ o, o < 17 → ∀ x ∈ q_ldi o, lw_tbl[x.2.2]? = some (.constant (q_nm o) x.1 x.2.1) := by decide +kernel
theorem q_cln_ok : ∀ o, o < 17 → ∀ x ∈ q_cln o, lw_tbl[x.2]? = some (.methodLink (q_nm o) x.1 ⟨"[B", "clone", "()Ljava/lang/Object;"⟩) := by decide +kernel
theorem q_ckc_ok : ∀ o, o < 17 → ∀ x ∈ q_ckc o, lw_tbl[x.2]? = some (.classLink (q_nm o) x.1 "[B") := by decide +kernel
end
section
/-! the abstract machine: one step of a method's bytecode over locals, operands and a heap of contents by address -/
/-- the heap: contents by address, its size if it is known, cells and slots made so far -/
abbrev q_H : Type := (Nat → Option va_E) × Option Nat × Nat × Nat
/-- a method's end: what it returned, or the name of what it threw -/
abbrev q_R : Type := Option Value ⊕ String
/-- what doesn't change: statics by number, arrays that are only read -/
abbrev q_E : Type := (Nat → Option Value) × (Nat → Option (FieldType × Nat × (Nat → Value)))
abbrev q_F : Type := Nat × List Value × List Value × q_H
abbrev q_S : Type := q_F ⊕ ((q_M × Nat × List Value × List Value) ⊕ (q_R × q_H))
abbrev q_own (M : q_M) : Nat := M.2.2.2.2.1
abbrev q_hgt (M : q_M) : Nat := M.2.2.2.2.2.1
abbrev q_ret (M : q_M) : Option FieldType := M.2.2.2.1
abbrev q_hnd (M : q_M) : List (Nat × Nat × Nat × Nat) := M.2.2.2.2.2.2.2
def q_nx (pc : Nat) (ls st : List Value) (h : q_H) : Option q_S := some (.inl (pc, ls, st, h))
def q_up (h : q_H) (a : Nat) (e : va_E) : q_H := (fun b => if b = a then some e else h.1 b, h.2)
def q_al (h : q_H) (a : Nat) (e : va_E) (n : Nat) : q_H := (fun b => if b = a then some e else h.1 b, some (a + 1), h.2.2.1 + 1, h.2.2.2 + n)
abbrev q_out (i : Int32) (n : Nat) : Prop := i < 0 ∨ n ≤ i.toNatClampNeg
def q_ld (ls : List Value) (i : Nat) : Value := ls.getD i .null
def q_st1 (ls : List Value) (i : Nat) (v : Value) : List Value := match i with
  | 0 => ls.set 0 v
  | j + 1 => (if (q_ld ls j).category = 2 then ls.set j .null else ls).set (j + 1) v
def q_st2 (ls : List Value) (i : Nat) (v : Value) : List Value := (q_st1 ls i v).set (i + 1) .null
def q_tgt (pc : Nat) (off : Int) : Option Nat := match (pc : Int) + off with
  | .ofNat t => some t
  | .negSucc _ => none
def q_gI (E : q_E) (h : q_H) (t : Nat) (ty : FieldType) (a : Nat) (i : Int32) : Option Value := match h.1 a with
  | some (.inl (t', n, .inl f)) => if t' = t ∧ ¬ q_out i n then some (.int (f i.toNatClampNeg)) else none
  | none => match E.2 a with
    | some (ty', n, f) => if ty' = ty ∧ ¬ q_out i n then some (f i.toNatClampNeg) else none
    | none => none
  | _ => none
def q_gB (E : q_E) (h : q_H) (a : Nat) (i : Int32) : Option Value := match h.1 a with
  | none => (match E.2 a with
    | some (.byte, n, f) => if ¬ q_out i n then some (f i.toNatClampNeg) else none
    | _ => none)
  | some (.inl (4, n, .inl f)) => if ¬ q_out i n then some (.int (f i.toNatClampNeg)) else none
  | _ => q_gI E h 2 .boolean a i
def q_gL (h : q_H) (a : Nat) (i : Int32) : Option Value := match h.1 a with
  | some (.inl (t', n, .inr (.inl f))) => if t' = 1 ∧ ¬ q_out i n then some (.long (f i.toNatClampNeg)) else none
  | _ => none
def q_gQ (h : q_H) (a : Nat) (i : Int32) : Option Value := match h.1 a with
  | some (.inl (t', n, .inr (.inr (.inr (.inr f))))) => if (5 ≤ t' ∧ t' ≤ 8) ∧ ¬ q_out i n then some (va_rf (f i.toNatClampNeg)) else none
  | _ => none
def q_sI (h : q_H) (t : Nat) (a : Nat) (i : Int32) (x : Int32) : Option q_H := match h.1 a with
  | some (.inl (t', n, .inl f)) => if t' = t ∧ ¬ q_out i n then some (q_up h a (.inl (t, n, .inl (upd f i.toNatClampNeg x)))) else none
  | _ => none
def q_sL (h : q_H) (a : Nat) (i : Int32) (x : Int64) : Option q_H := match h.1 a with
  | some (.inl (t', n, .inr (.inl f))) => if t' = 1 ∧ ¬ q_out i n then some (q_up h a (.inl (1, n, .inr (.inl (vp_updL f i.toNatClampNeg x))))) else none
  | _ => none
/-- which objects an array of references takes -/
def q_ec : Nat → Nat
  | 5 => 5
  | 6 => 3
  | 7 => 6
  | _ => 99
def q_sQ (h : q_H) (a : Nat) (i : Int32) (v : Nat) : Option q_H := match h.1 a, h.1 v with
  | some (.inl (t', n, .inr (.inr (.inr (.inr f))))), some (.inr (ci, _)) => if (5 ≤ t' ∧ t' ≤ 7) ∧ ci = q_ec t' ∧ ¬ q_out i n then some (q_up h a (.inl (t', n, .inr (.inr (.inr (.inr (va_up f i.toNatClampNeg (some v)))))))) else none
  | _, _ => none
def q_gf (h : q_H) (a ci k : Nat) : Option Value := match h.1 a with
  | some (.inr (c, fs)) => if c = ci then fs[k]? else none
  | _ => none
/-- which string constant lies at a -/
def q_sx (E : q_E) (a : Nat) : Option Nat := (List.range 8).find? fun i => decide (E.1 (6 + 2 * i) = some (.ref a))
/-- a field: of an object in the heap, or of a string constant -/
def q_gE (E : q_E) (h : q_H) (a ci k : Nat) : Option Value := match h.1 a with
  | some (.inr (c, fs)) => if c = ci then fs[k]? else none
  | none => if ci = 9 then (match q_sx E a, k with
    | some i, 0 => E.1 (7 + 2 * i)
    | some _, 1 => some (.int 0)
    | _, _ => none) else none
  | _ => none
def q_pf (h : q_H) (a ci k : Nat) (v : Value) : Option q_H := match h.1 a with
  | some (.inr (c, fs)) => if c = ci ∧ k < fs.length then some (q_up h a (.inr (ci, fs.set k v))) else none
  | _ => none
def q_len (E : q_E) (h : q_H) (a : Nat) : Option Int32 := match h.1 a with
  | some (.inl (t, n, _)) => if t ≤ 8 then some (Int32.ofNat n) else none
  | none => match E.2 a with
    | some (_, n, _) => some (Int32.ofNat n)
    | none => none
  | _ => none
def q_iv (f : Nat → Value) : Nat → Int32 := fun k => match f k with
  | .int x => x
  | _ => 0
/-- the range of a copy -/
abbrev q_cr (sp dp n : Int32) (n0 n1 : Nat) : Prop := (¬ sp < 0 ∧ ¬ dp < 0 ∧ ¬ n < 0) ∧ sp.toNatClampNeg + n.toNatClampNeg ≤ n0 ∧ dp.toNatClampNeg + n.toNatClampNeg ≤ n1
def q_cpy (E : q_E) (h : q_H) (a0 : Nat) (sp : Int32) (a : Nat) (dp n : Int32) : Option q_H := match h.1 a0, h.1 a with
  | some (.inl (t0, n0, .inl f)), some (.inl (t1, n1, .inl g)) => if (t0 = t1 ∧ (t1 = 0 ∨ t1 = 2 ∨ t1 = 4)) ∧ q_cr sp dp n n0 n1 ∧ (t1 = 2 → ∀ i, i < n.toNatClampNeg → fits .boolean (.int (f (sp.toNatClampNeg + i))) = true) ∧ (t1 = 4 → ∀ i, i < n.toNatClampNeg → fits .byte (.int (f (sp.toNatClampNeg + i))) = true) then some (q_up h a (.inl (t1, n1, .inl (va_cpy f g sp.toNatClampNeg dp.toNatClampNeg n.toNatClampNeg)))) else none
  | some (.inl (t0, n0, .inr (.inl f))), some (.inl (t1, n1, .inr (.inl g))) => if (t0 = 1 ∧ t1 = 1) ∧ q_cr sp dp n n0 n1 then some (q_up h a (.inl (1, n1, .inr (.inl (va_cpy f g sp.toNatClampNeg dp.toNatClampNeg n.toNatClampNeg))))) else none
  | none, some (.inl (t1, n1, .inl g)) => (match E.2 a0 with
    | some (.int, n0, f) => if t1 = 0 ∧ q_cr sp dp n n0 n1 ∧ (∀ i, i < n.toNatClampNeg → f (sp.toNatClampNeg + i) = .int (q_iv f (sp.toNatClampNeg + i))) then some (q_up h a (.inl (0, n1, .inl (va_cpy (q_iv f) g sp.toNatClampNeg dp.toNatClampNeg n.toNatClampNeg)))) else none
    | some (.byte, n0, f) => if t1 = 4 ∧ q_cr sp dp n n0 n1 ∧ (∀ i, i < n.toNatClampNeg → f (sp.toNatClampNeg + i) = .int (q_iv f (sp.toNatClampNeg + i)) ∧ fits .byte (.int (q_iv f (sp.toNatClampNeg + i))) = true) then some (q_up h a (.inl (4, n1, .inl (va_cpy (q_iv f) g sp.toNatClampNeg dp.toNatClampNeg n.toNatClampNeg)))) else none
    | _ => none)
  | _, _ => none
def q_cat (st : List Value) : Nat := (st.map fun v => v.category).sum
def q_exp (vs : List Value) : List Value := vs.flatMap fun v => if v.category = 2 then [v, .null] else [v]
/-- a method's locals at its entry -/
def q_ent (M : q_M) (vs : List Value) : List Value := q_exp vs ++ List.replicate (M.2.2.1 - (q_exp vs).length) .null
/-- the fields of a new object -/
def q_df (ci : Nat) : List Value := (List.range (q_N ci)).map fun j => defaultValue (q_ty ci j)
/-- new arrays: which, and with what -/
def q_na : ArrayType → Option (Nat × FieldType)
  | .int => some (0, .int)
  | .long => some (1, .long)
  | .boolean => some (2, .boolean)
  | .char => some (3, .char)
  | .byte => some (4, .byte)
  | _ => none
def q_z : Nat → (Nat → Int32) ⊕ ((Nat → Int64) ⊕ ((Nat → UInt32) ⊕ ((Nat → UInt64) ⊕ (Nat → Option Nat))))
  | 1 => .inr (.inl fun _ => 0)
  | _ => .inl fun _ => 0
/-- new T[n][k]: the outer row, then the inner ones -/
def q_alm (h : q_H) (a N K : Nat) : q_H := (fun b => if b = a then some (.inl (8, N, .inr (.inr (.inr (.inr fun i => if i < N then some (a + 1 + i) else none))))) else if a < b ∧ b ≤ a + N then some (.inl (0, K, .inl fun _ => 0)) else h.1 b, some (a + 1 + N), h.2.2.1 + 1 + N, h.2.2.2 + N + N * K)
def q_cond (k : Jvm.ClassFile.Cond) (x y : Int32) : Bool := match k with
  | .eq => decide (x = y)
  | .ne => decide (¬ x = y)
  | .lt => decide (x < y)
  | .ge => decide (y ≤ x)
  | .gt => decide (y < x)
  | .le => decide (x ≤ y)
def q_if (b : Bool) (x y : Option q_S) : Option q_S := bif b then x else y
def q_br (b : Bool) (pc : Nat) (off : Int) (ls st : List Value) (h : q_H) : Option q_S := match q_tgt pc off with
  | some t => q_if b (q_nx t ls st h) (q_nx (pc + 3) ls st h)
  | none => none
def q_go (pc : Nat) (off : Int) (ls st : List Value) (h : q_H) : Option q_S := match q_tgt pc off with
  | some t => q_nx t ls st h
  | none => none

/-- 'throw new E()' at pc: the two instructions behind it -/
def q_thr (M : q_M) (pc ic : Nat) : Bool := (match decode M.2.1 (pc + 3), decode M.2.1 (pc + 4), decode M.2.1 (pc + 7) with
  | .ok (.dup, 1), .ok (.invokespecial k, 3), .ok (.athrow, 1) => Nat.beq k ic
  | _, _, _ => false)
/-- a method's owner: the class of what it is called on -/
def q_rc : Nat → Nat
  | 12 => 9
  | o => o
def q_call (E : q_E) (M : q_M) (k n : Nat) (M' : q_M) (st : List Value) (h : q_H) : Option q_S :=
  if q_hgt M' < q_hgt M ∧ n ≤ st.length then
    match k with
    | 0 => if q_cat (st.drop n) ≤ 8 ∧ (q_exp (st.take n).reverse).length ≤ M'.2.2.1 then some (.inr (.inl (M', 0, (st.take n).reverse, st.drop n))) else none
    | k' + 1 => match st.drop n with
      | .ref b :: rest => if q_cat rest ≤ 8 ∧ (q_exp (.ref b :: (st.take n).reverse)).length ≤ M'.2.2.1 then
          match k' with
          | 0 => (match h.1 b with
            | some (.inr (ci, _)) => if ci = q_rc (q_own M') ∧ ci < 10 then some (.inr (.inl (M', 1, .ref b :: (st.take n).reverse, rest))) else none
            | none => if q_own M' = 12 ∧ (q_sx E b).isSome = true then some (.inr (.inl (M', 1, .ref b :: (st.take n).reverse, rest))) else none
            | _ => none)
          | _ + 1 => some (.inr (.inl (M', 2, .ref b :: (st.take n).reverse, rest)))
        else none
      | _ => none
  else none
/-- a call of a method that StringBuilder has from its superclass, or of the superclass's own: on a StringBuilder -/
def q_callU (M : q_M) (n : Nat) (M' : q_M) (st : List Value) (h : q_H) : Option q_S :=
  if q_hgt M' < q_hgt M ∧ n ≤ st.length then
    match st.drop n with
    | .ref b :: rest => (match h.1 b with
      | some (.inr (8, _)) => if q_cat rest ≤ 8 ∧ (q_exp (.ref b :: (st.take n).reverse)).length ≤ M'.2.2.1 then some (.inr (.inl (M', 2, .ref b :: (st.take n).reverse, rest))) else none
      | _ => none)
    | _ => none
  else none
/-- a copy of an array of bytes -/
def q_cl1 (h : q_H) (a : Nat) : Option (Nat × (Nat → Int32)) := match h.1 a with
  | some (.inl (4, n, .inl f)) => some (n, f)
  | _ => none
def q_stepI (E : q_E) (M : q_M) (i : Instr) (len pc : Nat) (ls st : List Value) (h : q_H) : Option q_S := match i with
  | .iconst n => if len = 1 then q_nx (pc + 1) ls (.int (Int32.ofInt n) :: st) h else none
  | .bipush n => if len = 2 then q_nx (pc + 2) ls (.int (Int8.ofInt n).toInt32 :: st) h else none
  | .sipush n => if len = 3 then q_nx (pc + 3) ls (.int (Int16.ofInt n).toInt32 :: st) h else none
  | .lconst n => if len = 1 then q_nx (pc + 1) ls (.long (Int64.ofNat (n : Nat)) :: st) h else none
  | .ldc2_w ix => (match q_lk (q_ldl (q_own M)) ix with
    | some (x, _) => if len = 3 ∧ q_own M < 17 then q_nx (pc + 3) ls (.long x :: st) h else none
    | none => none)
  | .iload_n k => (match ls[(k : Nat)]? with
    | some (.int x) => if len = 1 then q_nx (pc + 1) ls (.int x :: st) h else none
    | _ => none)
  | .iload k => (match ls[k]? with
    | some (.int x) => if len = 2 then q_nx (pc + 2) ls (.int x :: st) h else none
    | _ => none)
  | .lload_n k => (match ls[(k : Nat)]? with
    | some (.long x) => if len = 1 then q_nx (pc + 1) ls (.long x :: st) h else none
    | _ => none)
  | .lload k => (match ls[k]? with
    | some (.long x) => if len = 2 then q_nx (pc + 2) ls (.long x :: st) h else none
    | _ => none)
  | .aload_n k => (match ls[(k : Nat)]? with
    | some (.ref x) => if len = 1 then q_nx (pc + 1) ls (.ref x :: st) h else none
    | _ => none)
  | .aload k => (match ls[k]? with
    | some (.ref x) => if len = 2 then q_nx (pc + 2) ls (.ref x :: st) h else none
    | _ => none)
  | .istore_n k => (match st with
    | .int x :: st' => if len = 1 ∧ (k : Nat) < ls.length then q_nx (pc + 1) (q_st1 ls (k : Nat) (.int x)) st' h else none
    | _ => none)
  | .istore k => (match st with
    | .int x :: st' => if len = 2 ∧ k < ls.length then q_nx (pc + 2) (q_st1 ls k (.int x)) st' h else none
    | _ => none)
  | .astore_n k => (match st with
    | .ref x :: st' => if len = 1 ∧ (k : Nat) < ls.length then q_nx (pc + 1) (q_st1 ls (k : Nat) (.ref x)) st' h else none
    | _ => none)
  | .astore k => (match st with
    | .ref x :: st' => if len = 2 ∧ k < ls.length then q_nx (pc + 2) (q_st1 ls k (.ref x)) st' h else none
    | _ => none)
  | .lstore_n k => (match st with
    | .long x :: st' => if len = 1 ∧ (k : Nat) + 1 < ls.length then q_nx (pc + 1) (q_st2 ls (k : Nat) (.long x)) st' h else none
    | _ => none)
  | .lstore k => (match st with
    | .long x :: st' => if len = 2 ∧ k + 1 < ls.length then q_nx (pc + 2) (q_st2 ls k (.long x)) st' h else none
    | _ => none)
  | .iinc k n => (match ls[k]? with
    | some (.int x) => if len = 3 then q_nx (pc + 3) (q_st1 ls k (.int (x + Int32.ofInt n))) st h else none
    | _ => none)
  | .iadd => (match st with
    | .int y :: .int x :: st' => if len = 1 then q_nx (pc + 1) ls (.int (x + y) :: st') h else none
    | _ => none)
  | .isub => (match st with
    | .int y :: .int x :: st' => if len = 1 then q_nx (pc + 1) ls (.int (x - y) :: st') h else none
    | _ => none)
  | .imul => (match st with
    | .int y :: .int x :: st' => if len = 1 then q_nx (pc + 1) ls (.int (x * y) :: st') h else none
    | _ => none)
  | .iand => (match st with
    | .int y :: .int x :: st' => if len = 1 then q_nx (pc + 1) ls (.int (x &&& y) :: st') h else none
    | _ => none)
  | .ior => (match st with
    | .int y :: .int x :: st' => if len = 1 then q_nx (pc + 1) ls (.int (x ||| y) :: st') h else none
    | _ => none)
  | .ishl => (match st with
    | .int y :: .int x :: st' => if len = 1 then q_nx (pc + 1) ls (.int (x <<< (y &&& 31)) :: st') h else none
    | _ => none)
  | .ishr => (match st with
    | .int y :: .int x :: st' => if len = 1 then q_nx (pc + 1) ls (.int (x >>> (y &&& 31)) :: st') h else none
    | _ => none)
  | .iushr => (match st with
    | .int y :: .int x :: st' => if len = 1 then q_nx (pc + 1) ls (.int (x.toUInt32 >>> (y.toUInt32 &&& Int32.toUInt32 31)).toInt32 :: st') h else none
    | _ => none)
  | .ineg => (match st with
    | .int x :: st' => if len = 1 then q_nx (pc + 1) ls (.int (-x) :: st') h else none
    | _ => none)
  | .lmul => (match st with
    | .long y :: .long x :: st' => if len = 1 then q_nx (pc + 1) ls (.long (x * y) :: st') h else none
    | _ => none)
  | .ladd => (match st with
    | .long y :: .long x :: st' => if len = 1 then q_nx (pc + 1) ls (.long (x + y) :: st') h else none
    | _ => none)
  | .ifnull _ => (match st with
    | .ref _ :: st' => if len = 3 then q_nx (pc + 3) ls st' h else none
    | _ => none)
  | .idiv => (match st with
    | .int y :: .int x :: st' => if len = 1 ∧ ¬ y = 0 then q_nx (pc + 1) ls (.int (x / y) :: st') h else none
    | _ => none)
  | .irem => (match st with
    | .int y :: .int x :: st' => if len = 1 ∧ ¬ y = 0 then q_nx (pc + 1) ls (.int (x - x / y * y) :: st') h else none
    | _ => none)
  | .land => (match st with
    | .long y :: .long x :: st' => if len = 1 then q_nx (pc + 1) ls (.long (x &&& y) :: st') h else none
    | _ => none)
  | .lor => (match st with
    | .long y :: .long x :: st' => if len = 1 then q_nx (pc + 1) ls (.long (x ||| y) :: st') h else none
    | _ => none)
  | .lxor => (match st with
    | .long y :: .long x :: st' => if len = 1 then q_nx (pc + 1) ls (.long (x ^^^ y) :: st') h else none
    | _ => none)
  | .lshl => (match st with
    | .int y :: .long x :: st' => if len = 1 then q_nx (pc + 1) ls (.long (x <<< (y.toInt64 &&& 63)) :: st') h else none
    | _ => none)
  | .lushr => (match st with
    | .int y :: .long x :: st' => if len = 1 then q_nx (pc + 1) ls (.long (x.toUInt64 >>> (y.toInt64.toUInt64 &&& Int64.toUInt64 63)).toInt64 :: st') h else none
    | _ => none)
  | .lcmp => (match st with
    | .long y :: .long x :: st' => if len = 1 then q_nx (pc + 1) ls (.int (lg_cmp x y) :: st') h else none
    | _ => none)
  | .i2l => (match st with
    | .int x :: st' => if len = 1 then q_nx (pc + 1) ls (.long x.toInt64 :: st') h else none
    | _ => none)
  | .i2c => (match st with
    | .int x :: st' => if len = 1 then q_nx (pc + 1) ls (.int (x.toUInt32 % 65536).toInt32 :: st') h else none
    | _ => none)
  | .i2b => (match st with
    | .int x :: st' => if len = 1 then q_nx (pc + 1) ls (.int x.toInt8.toInt32 :: st') h else none
    | _ => none)
  | .i2f => (match st with
    | .int x :: st' => if len = 1 then q_nx (pc + 1) ls (.float (FP.i2f x) :: st') h else none
    | _ => none)
  | .i2d => (match st with
    | .int x :: st' => if len = 1 then q_nx (pc + 1) ls (.double (FP.i2d x) :: st') h else none
    | _ => none)
  | .f2d => (match st with
    | .float x :: st' => if len = 1 ∧ (FP.f2d x &&& 0x7fffffffffffffff ≤ 0x7ff0000000000000) then q_nx (pc + 1) ls (.double (FP.f2d x) :: st') h else none
    | _ => none)
  | .fdiv => (match st with
    | .float y :: .float x :: st' => if len = 1 ∧ (FP.fdiv x y &&& 0x7fffffff ≤ 0x7f800000) then q_nx (pc + 1) ls (.float (FP.fdiv x y) :: st') h else none
    | _ => none)
  | .ddiv => (match st with
    | .double y :: .double x :: st' => if len = 1 ∧ (FP.ddiv x y &&& 0x7fffffffffffffff ≤ 0x7ff0000000000000) then q_nx (pc + 1) ls (.double (FP.ddiv x y) :: st') h else none
    | _ => none)
  | .fcmp op => (match st with
    | .float y :: .float x :: st' => if len = 1 then q_nx (pc + 1) ls (.int (Op.cmpValue (FP.fcmp x y) op) :: st') h else none
    | _ => none)
  | .dcmp op => (match st with
    | .double y :: .double x :: st' => if len = 1 then q_nx (pc + 1) ls (.int (Op.cmpValue (FP.dcmp x y) op) :: st') h else none
    | _ => none)
  | .fconst n => if len = 1 ∧ (n : Nat) = 0 then q_nx (pc + 1) ls (.float FP.fconst0 :: st) h else none
  | .dconst n => if len = 1 ∧ (n : Nat) = 0 then q_nx (pc + 1) ls (.double FP.dconst0 :: st) h else none
  | .fload k => (match ls[k]? with
    | some (.float x) => if len = 2 then q_nx (pc + 2) ls (.float x :: st) h else none
    | _ => none)
  | .dload k => (match ls[k]? with
    | some (.double x) => if len = 2 then q_nx (pc + 2) ls (.double x :: st) h else none
    | _ => none)
  | .fstore k => (match st with
    | .float x :: st' => if len = 2 ∧ k < ls.length then q_nx (pc + 2) (q_st1 ls k (.float x)) st' h else none
    | _ => none)
  | .dstore k => (match st with
    | .double x :: st' => if len = 2 ∧ k + 1 < ls.length then q_nx (pc + 2) (q_st2 ls k (.double x)) st' h else none
    | _ => none)
  | .ldc ix => (match q_lk (q_lst (q_own M)) ix with
    | some (i, _) => (match E.1 (6 + 2 * i) with
      | some v => if len = 2 ∧ q_own M < 17 then q_nx (pc + 2) ls (v :: st) h else none
      | none => none)
    | none => (match q_lk (q_ldi (q_own M)) ix with
      | some (x, _) => if len = 2 ∧ q_own M < 17 then q_nx (pc + 2) ls (.int x :: st) h else none
      | none => none))
  | .ldc_w ix => (match q_lk (q_lst (q_own M)) ix with
    | some (i, _) => (match E.1 (6 + 2 * i) with
      | some v => if len = 3 ∧ q_own M < 17 then q_nx (pc + 3) ls (v :: st) h else none
      | none => none)
    | none => none)
  | .aconst_null => if len = 1 then q_nx (pc + 1) ls (.null :: st) h else none
  | .ifnonnull off => (match st with
    | .ref _ :: st' => if len = 3 then q_go pc off ls st' h else none
    | _ => none)
  | .checkcast ix => (match st, q_lk (q_ckc (q_own M)) ix with
    | .ref a :: st', some _ => (match q_cl1 h a with
      | some _ => if len = 3 ∧ q_own M < 17 then q_nx (pc + 3) ls (.ref a :: st') h else none
      | none => none)
    | _, _ => none)
  | .pop => (match st with
    | v :: st' => if len = 1 ∧ v.category = 1 then q_nx (pc + 1) ls st' h else none
    | _ => none)
  | .dup => (match st with
    | v :: st' => if len = 1 ∧ v.category = 1 then q_nx (pc + 1) ls (v :: v :: st') h else none
    | _ => none)
  | .dup2 => (match st with
    | v :: w :: st' => if len = 1 ∧ v.category = 1 ∧ w.category = 1 then q_nx (pc + 1) ls (v :: w :: v :: w :: st') h else none
    | _ => none)
  | .ifCond k off => (match st with
    | .int x :: st' => if len = 3 then q_br (q_cond k x 0) pc off ls st' h else none
    | _ => none)
  | .if_icmp k off => (match st with
    | .int y :: .int x :: st' => if len = 3 then q_br (q_cond k x y) pc off ls st' h else none
    | _ => none)
  | .goto off => if len = 3 then q_go pc off ls st h else none
  | .tableswitch dflt lo hi offs => (match st with
    | .int x :: st' => if x.toInt < lo ∨ hi < x.toInt then q_go pc dflt ls st' h else (match offs[(x.toInt - lo).toNat]? with
      | some off => q_go pc off ls st' h
      | none => none)
    | _ => none)
  | .getfield ix => (match q_lk (q_fl (q_own M)) ix, st with
    | some (ci, k, _), .ref a :: st' => (match q_gE E h a ci k with
      | some v => if len = 3 ∧ q_own M < 17 then q_nx (pc + 3) ls (v :: st') h else none
      | none => none)
    | _, _ => none)
  | .putfield ix => (match q_lk (q_fl (q_own M)) ix, st with
    | some (ci, k, _), v :: .ref a :: st' => (match q_pf h a ci k v with
      | some h' => if (len = 3 ∧ q_own M < 17) ∧ narrow (q_ty ci k) v = v ∧ fits (q_ty ci k) v = true ∧ ((q_T ci k).2.2.2 = true → M.1.name = "<init>" ∧ q_cnm ci = q_nm (q_own M)) then q_nx (pc + 3) ls st' h' else none
      | none => none)
    | _, _ => none)
  | .getstatic ix => (match q_lk (q_stf (q_own M)) ix with
    | some (j, _) => (match E.1 j with
      | some v => if len = 3 ∧ q_own M < 17 then q_nx (pc + 3) ls (v :: st) h else none
      | none => none)
    | none => none)
  | .iaload => (match st with
    | .int i :: .ref a :: st' => (match q_gI E h 0 .int a i with
      | some v => if len = 1 then q_nx (pc + 1) ls (v :: st') h else none
      | none => none)
    | _ => none)
  | .baload => (match st with
    | .int i :: .ref a :: st' => (match q_gB E h a i with
      | some v => if len = 1 then q_nx (pc + 1) ls (v :: st') h else none
      | none => none)
    | _ => none)
  | .caload => (match st with
    | .int i :: .ref a :: st' => (match q_gI E h 3 .char a i with
      | some v => if len = 1 then q_nx (pc + 1) ls (v :: st') h else none
      | none => none)
    | _ => none)
  | .laload => (match st with
    | .int i :: .ref a :: st' => (match q_gL h a i with
      | some v => if len = 1 then q_nx (pc + 1) ls (v :: st') h else none
      | none => none)
    | _ => none)
  | .aaload => (match st with
    | .int i :: .ref a :: st' => (match q_gQ h a i with
      | some v => if len = 1 then q_nx (pc + 1) ls (v :: st') h else none
      | none => none)
    | _ => none)
  | .iastore => (match st with
    | .int x :: .int i :: .ref a :: st' => (match q_sI h 0 a i x with
      | some h' => if len = 1 then q_nx (pc + 1) ls st' h' else none
      | none => none)
    | _ => none)
  | .bastore => (match st with
    | .int x :: .int i :: .ref a :: st' => (match q_sI h 2 a i (vp_nar .boolean x) with
      | some h' => if len = 1 then q_nx (pc + 1) ls st' h' else none
      | none => none)
    | _ => none)
  | .castore => (match st with
    | .int x :: .int i :: .ref a :: st' => (match q_sI h 3 a i (vp_nar .char x) with
      | some h' => if len = 1 then q_nx (pc + 1) ls st' h' else none
      | none => none)
    | _ => none)
  | .lastore => (match st with
    | .long x :: .int i :: .ref a :: st' => (match q_sL h a i x with
      | some h' => if len = 1 then q_nx (pc + 1) ls st' h' else none
      | none => none)
    | _ => none)
  | .aastore => (match st with
    | .ref v :: .int i :: .ref a :: st' => (match q_sQ h a i v with
      | some h' => if len = 1 then q_nx (pc + 1) ls st' h' else none
      | none => none)
    | _ => none)
  | .arraylength => (match st with
    | .ref a :: st' => (match q_len E h a with
      | some n => if len = 1 then q_nx (pc + 1) ls (.int n :: st') h else none
      | none => none)
    | _ => none)
  | .newarray ty => (match st, h.2.1, q_na ty with
    | .int n :: st', some a, some (t, _) => if len = 2 ∧ ¬ n < 0 ∧ n.toNatClampNeg ≤ 1000000 then q_nx (pc + 2) ls (.ref a :: st') (q_al h a (.inl (t, n.toNatClampNeg, q_z t)) n.toNatClampNeg) else none
    | _, _, _ => none)
  | .anewarray ix => (match st, h.2.1, q_lk (q_anw (q_own M)) ix with
    | .int n :: st', some a, some (t, _, _) => if (len = 3 ∧ q_own M < 10) ∧ ¬ n < 0 ∧ n.toNatClampNeg ≤ 1000000 then q_nx (pc + 3) ls (.ref a :: st') (q_al h a (.inl (t, n.toNatClampNeg, .inr (.inr (.inr (.inr fun _ => none))))) n.toNatClampNeg) else none
    | _, _, _ => none)
  | .multianewarray ix d => (match st, h.2.1, q_lk (q_mna (q_own M)) ix with
    | .int k :: .int n :: st', some a, some _ => if ((len = 4 ∧ q_own M < 10) ∧ d = 2) ∧ (¬ n < 0 ∧ ¬ k < 0) ∧ n.toNatClampNeg ≤ 1000 ∧ k.toNatClampNeg ≤ 1000 then q_nx (pc + 4) ls (.ref a :: st') (q_alm h a n.toNatClampNeg k.toNatClampNeg) else none
    | _, _, _ => none)
  | .new ix => (match q_lk (q_new (q_own M)) ix with
    | some (ci, _, _, _) => (match h.2.1 with
      | some a => if len = 3 ∧ q_own M < 17 then q_nx (pc + 3) ls (.ref a :: st) (q_al h a (.inr (ci, q_df ci)) (q_N ci)) else none
      | none => none)
    | none => (match q_lk (q_exc (q_own M)) ix with
      | some (x, ic, _, _) => if ((len = 3 ∧ q_own M < 10) ∧ 7 ≤ q_hgt M) ∧ q_thr M pc ic = true ∧ q_hnd M = [] ∧ q_cat st ≤ 8 then some (.inr (.inr (.inr x, (h.1, h.2.1.map (· + 1), h.2.2.1 + 1, h.2.2.2 + 6)))) else none
      | none => none))
  | .invokestatic ix => (match q_lk (q_cal (q_own M)) ix with
    | some (k, n, M', _, _, _, _) => if len = 3 ∧ k = 0 then q_call E M 0 n M' st h else none
    | none => (match q_lk (q_acp (q_own M)) ix, st with
      | some _, .int n :: .int dp :: .ref a :: .int sp :: .ref a0 :: st' => (match q_cpy E h a0 sp a dp n with
        | some h' => if (len = 3 ∧ q_own M < 17) ∧ 1 ≤ q_hgt M ∧ q_cat st' ≤ 8 then q_nx (pc + 3) ls st' h' else none
        | none => none)
      | none, .int y :: .int x :: st' => (match q_lk (q_mth (q_own M)) ix with
        | some (j, _) => if (len = 3 ∧ q_own M < 17) ∧ 1 ≤ q_hgt M ∧ q_cat st' ≤ 8 then q_nx (pc + 3) ls (.int (bif Nat.beq j 0 then (if x < y then y else x) else (if y < x then y else x)) :: st') h else none
        | none => none)
      | _, _ => none))
  | .invokevirtual ix => (match q_lk (q_cal (q_own M)) ix with
    | some (k, n, M', _, _, _, _) => if len = 3 ∧ k = 1 then q_call E M 1 n M' st h else none
    | none => (match q_lk (q_cav (q_own M)) ix with
      | some (k, n, _, M', _, _, _, _, _, _) => if (len = 3 ∧ k = 3) ∧ q_own M < 17 then q_callU M n M' st h else none
      | none => (match st, h.2.1, q_lk (q_cln (q_own M)) ix with
        | .ref a :: st', some q, some _ => (match q_cl1 h a with
          | some (n, g) => if ((len = 3 ∧ q_own M < 17) ∧ 1 ≤ q_hgt M ∧ q_cat st' ≤ 8) ∧ ∀ i, i < n → fits .byte (.int (g i)) = true then q_nx (pc + 3) ls (.ref q :: st') (q_al h q (.inl (4, n, .inl g)) n) else none
          | none => none)
        | _, _, _ => none)))
  | .invokespecial ix => (match q_lk (q_cal (q_own M)) ix with
    | some (k, n, M', _, _, _, _) => if len = 3 ∧ k = 2 then q_call E M 2 n M' st h else none
    | none => (match q_lk (q_cav (q_own M)) ix with
      | some (k, n, _, M', _, _, _, _, _, _) => if (len = 3 ∧ k = 4) ∧ q_own M < 17 then q_callU M n M' st h else none
      | none => (match q_lk (q_obi (q_own M)) ix, st with
        | some _, .ref _ :: st' => if (len = 3 ∧ q_own M < 17) ∧ 1 ≤ q_hgt M ∧ q_cat st' ≤ 8 then q_nx (pc + 3) ls st' h else none
        | _, _ => none)))
  | .ireturn => (match st, q_ret M with
    | [.int v], some ty => if len = 1 ∧ narrow ty (.int v) = .int v then some (.inr (.inr (.inl (some (.int v)), h))) else none
    | _, _ => none)
  | .lreturn => (match st, q_ret M with
    | [.long v], some .long => if len = 1 then some (.inr (.inr (.inl (some (.long v)), h))) else none
    | _, _ => none)
  | .freturn => (match st, q_ret M with
    | [.float v], some .float => if len = 1 then some (.inr (.inr (.inl (some (.float v)), h))) else none
    | _, _ => none)
  | .dreturn => (match st, q_ret M with
    | [.double v], some .double => if len = 1 then some (.inr (.inr (.inl (some (.double v)), h))) else none
    | _, _ => none)
  | .areturn => (match st, q_ret M with
    | [.ref v], some (.object _) => if len = 1 then some (.inr (.inr (.inl (some (.ref v)), h))) else none
    | [.ref v], some (.array _) => if len = 1 then some (.inr (.inr (.inl (some (.ref v)), h))) else none
    | _, _ => none)
  | .return_ => (match st, q_ret M with
    | [], none => if len = 1 then some (.inr (.inr (.inl none, h))) else none
    | _, _ => none)
  | _ => none
def q_step (E : q_E) (M : q_M) (pc : Nat) (ls st : List Value) (h : q_H) : Option q_S := match decode M.2.1 pc with
  | .ok (i, len) => q_stepI E M i len pc ls st h
  | .error _ => none
def q_lk' (l : List (String × Nat)) (x : String) : Bool := l.any fun q => q.1 == x
/-- pairs of classes said not castable -/
def q_ncb (x nm : String) : Bool := (x == "java/lang/IllegalArgumentException" && nm == "java/lang/IndexOutOfBoundsException") || (x == "java/util/NoSuchElementException" && nm == "java/lang/IndexOutOfBoundsException")
def q_hd1 (o : Nat) (x : String) (pc : Nat) : List (Nat × Nat × Nat × Nat) → Option Nat
  | [] => none
  | (a, b, hp, ci) :: t => if a ≤ pc ∧ pc < b then (match q_lk (q_hc o) ci with
      | some (nm, _) => if nm = x then (if (q_lk' q_cst x) = true ∧ ¬ ci = 0 then some hp else none) else (if q_ncb x nm = true ∧ ¬ ci = 0 then q_hd1 o x pc t else none)
      | none => none) else q_hd1 o x pc t
/-- a thrown x at pc: caught (where), not caught, or not known -/
def q_hd (M : q_M) (x : String) (pc : Nat) : List (Nat × Nat × Nat × Nat) → Option (Option Nat)
  | [] => some none
  | l => if q_own M = 9 then (match q_hd1 9 x pc l with
    | some hp => some (some hp)
    | none => none) else none
/-- a handler's first instruction puts what was thrown away -/
def q_hst (M : q_M) (hp : Nat) (ls : List Value) : Option (Nat × List Value) := match decode M.2.1 hp with
  | .ok (.astore_n k, 1) => if (k : Nat) < ls.length then some (hp + 1, q_st1 ls (k : Nat) .null) else none
  | .ok (.astore k, 2) => if k < ls.length then some (hp + 2, q_st1 ls k .null) else none
  | _ => none
abbrev q_fn : Type := q_M → Nat → List Value → List Value → q_H → Option (q_R × q_H)
/-- what follows a call -/
def q_bk (run : q_fn) (M : q_M) (pc : Nat) (ls : List Value) (j : Nat) (rest : List Value) (y : Option (q_R × q_H)) : Option (q_R × q_H) := match y with
  | none => none
  | some (.inl v, h') => run M (pc + 3) ls (v.toList ++ rest) h'
  | some (.inr x, h') => if j = 2 then none else match q_hd M x pc (q_hnd M) with
    | none => none
    | some none => some (.inr x, h')
    | some (some hp) => match q_hst M hp ls with
      | none => none
      | some (pc', ls') => run M pc' ls' [] h'
/-- what follows a step -/
def q_k (run : q_fn) (M : q_M) (pc : Nat) (ls : List Value) (h : q_H) (x : q_S) : Option (q_R × q_H) := match x with
  | .inl f => run M f.1 f.2.1 f.2.2.1 f.2.2.2
  | .inr (.inr r) => some r
  | .inr (.inl c) => q_bk run M pc ls c.2.1 c.2.2.2 (run c.1 0 (q_ent c.1 c.2.2.1) [] h)
def q_run (E : q_E) : Nat → q_fn
  | 0 => fun _ _ _ _ _ => none
  | n + 1 => fun M pc ls st h => (q_step E M pc ls st h).bind (q_k (q_run E n) M pc ls h)
def q_le (f g : q_fn) : Prop := ∀ M pc ls st h r, f M pc ls st h = some r → g M pc ls st h = some r
theorem q_bk_mono {f g : q_fn} (hfg : q_le f g) {M : q_M} {pc : Nat} {ls rest : List Value} {j : Nat} {y : Option (q_R × q_H)} {r : q_R × q_H} (h : q_bk f M pc ls j rest y = some r) : q_bk g M pc ls j rest y = some r := by
  unfold q_bk at h ⊢
  match y, h with
  | some (.inl v, h'), h => exact hfg _ _ _ _ _ _ h
  | some (.inr x, h'), h =>
    dsimp only at h ⊢
    by_cases hj : j = 2
    · rw [if_pos hj] at h; cases h
    rw [if_neg hj] at h ⊢
    cases e : q_hd M x pc (q_hnd M) with
    | none => rw [e] at h; cases h
    | some o =>
      rw [e] at h
      cases o with
      | none => exact h
      | some hp =>
        dsimp only at h ⊢
        cases e2 : q_hst M hp ls with
        | none => rw [e2] at h; cases h
        | some q => rw [e2] at h; exact hfg _ _ _ _ _ _ h
theorem q_k_mono {f g : q_fn} (hfg : q_le f g) {M : q_M} {pc : Nat} {ls : List Value} {h : q_H} {x : q_S} {r : q_R × q_H} (hx : q_k f M pc ls h x = some r) : q_k g M pc ls h x = some r := by
  unfold q_k at hx ⊢
  match x, hx with
  | .inl f', hx => exact hfg _ _ _ _ _ _ hx
  | .inr (.inr r'), hx => exact hx
  | .inr (.inl c), hx =>
    dsimp only at hx ⊢
    cases e : f c.1 0 (q_ent c.1 c.2.2.1) [] h with
    | none => rw [e] at hx; cases hx
    | some y => rw [e] at hx; rw [hfg _ _ _ _ _ _ e]; exact q_bk_mono hfg hx
theorem q_run_le (E : q_E) : ∀ n, q_le (q_run E n) (q_run E (n + 1))
  | 0 => fun _ _ _ _ _ _ h => by cases h
  | n + 1 => fun M pc ls st h r hr => by
    have hr : (q_step E M pc ls st h).bind (q_k (q_run E n) M pc ls h) = some r := hr
    show (q_step E M pc ls st h).bind (q_k (q_run E (n + 1)) M pc ls h) = some r
    cases e : q_step E M pc ls st h with
    | none => rw [e] at hr; cases hr
    | some x => rw [e] at hr; exact q_k_mono (q_run_le E n) hr
theorem q_run_up (E : q_E) (n k : Nat) : q_le (q_run E n) (q_run E (n + k)) := by
  induction k with
  | zero => exact fun _ _ _ _ _ _ h => h
  | succ k ih => exact fun M pc ls st h r hr => q_run_le E (n + k) M pc ls st h r (ih M pc ls st h r hr)
theorem q_run_one {E : q_E} {n k : Nat} {M : q_M} {pc : Nat} {ls st : List Value} {h : q_H} {r r' : q_R × q_H} (a : q_run E n M pc ls st h = some r) (b : q_run E k M pc ls st h = some r') : r = r' := by
  have a' := q_run_up E n k _ _ _ _ _ _ a
  have b' := q_run_up E k n _ _ _ _ _ _ b
  rw [Nat.add_comm] at b'
  exact Option.some.inj (a'.symm.trans b')
/-- what a method's frame comes to, if it ends -/
noncomputable def q_ex (E : q_E) : q_fn := fun M pc ls st h =>
  @dite _ (∃ n, q_run E n M pc ls st h ≠ none) (Classical.propDecidable _) (fun x => q_run E (Classical.choose x) M pc ls st h) (fun _ => none)
theorem q_ex_of {E : q_E} {n : Nat} {M : q_M} {pc : Nat} {ls st : List Value} {h : q_H} {r : q_R × q_H} (a : q_run E n M pc ls st h = some r) : q_ex E M pc ls st h = some r := by
  have x : ∃ n, q_run E n M pc ls st h ≠ none := ⟨n, by rw [a]; exact fun h => by cases h⟩
  unfold q_ex
  rw [dif_pos x]
  have y := Classical.choose_spec x
  cases e : q_run E (Classical.choose x) M pc ls st h with
  | none => exact absurd e y
  | some r' => rw [q_run_one a e]
theorem q_ex_run {E : q_E} {M : q_M} {pc : Nat} {ls st : List Value} {h : q_H} {r : q_R × q_H} (a : q_ex E M pc ls st h = some r) : ∃ n, q_run E n M pc ls st h = some r := by
  unfold q_ex at a
  by_cases x : ∃ n, q_run E n M pc ls st h ≠ none
  · rw [dif_pos x] at a
    exact ⟨_, a⟩
  · rw [dif_neg x] at a
    cases a
theorem q_le_ex (E : q_E) (n : Nat) : q_le (q_run E n) (q_ex E) := fun _ _ _ _ _ _ h => q_ex_of h
theorem q_ex_step (E : q_E) (M : q_M) (pc : Nat) (ls st : List Value) (h : q_H) : q_ex E M pc ls st h = (q_step E M pc ls st h).bind (q_k (q_ex E) M pc ls h) := by
  apply Option.ext
  intro r
  constructor
  · intro a
    obtain ⟨n, a⟩ := q_ex_run a
    match n, a with
    | n + 1, a =>
      have a : (q_step E M pc ls st h).bind (q_k (q_run E n) M pc ls h) = some r := a
      cases e : q_step E M pc ls st h with
      | none => rw [e] at a; cases a
      | some x => rw [e] at a; exact q_k_mono (q_le_ex E n) a
  · intro a
    cases e : q_step E M pc ls st h with
    | none => rw [e] at a; cases a
    | some x =>
      rw [e] at a
      have a : q_k (q_ex E) M pc ls h x = some r := a
      have key : ∃ n, q_k (q_run E n) M pc ls h x = some r := by
        match x, a with
        | .inl f, a => exact q_ex_run a
        | .inr (.inr r'), a => exact ⟨0, a⟩
        | .inr (.inl c), a =>
          have a : q_bk (q_ex E) M pc ls c.2.1 c.2.2.2 (q_ex E c.1 0 (q_ent c.1 c.2.2.1) [] h) = some r := a
          cases e1 : q_ex E c.1 0 (q_ent c.1 c.2.2.1) [] h with
          | none => rw [e1] at a; cases a
          | some y =>
            rw [e1] at a
            obtain ⟨n1, h1⟩ := q_ex_run e1
            have h2 : ∃ n2, q_bk (q_run E n2) M pc ls c.2.1 c.2.2.2 (some y) = some r := by
              match y, a with
              | (.inl v, h'), a => exact q_ex_run (a : q_ex E M (pc + 3) ls (v.toList ++ c.2.2.2) h' = some r)
              | (.inr z, h'), a =>
                unfold q_bk at a ⊢
                dsimp only at a ⊢
                by_cases hj : c.2.1 = 2
                · rw [if_pos hj] at a; cases a
                simp only [if_neg hj] at a ⊢
                cases e2 : q_hd M z pc (q_hnd M) with
                | none => rw [e2] at a; cases a
                | some o =>
                  rw [e2] at a
                  cases o with
                  | none => exact ⟨0, a⟩
                  | some hp =>
                    dsimp only at a ⊢
                    cases e3 : q_hst M hp ls with
                    | none => rw [e3] at a; cases a
                    | some q => rw [e3] at a; exact q_ex_run a
            obtain ⟨n2, h2⟩ := h2
            refine ⟨n1 + n2, ?_⟩
            show q_bk (q_run E (n1 + n2)) M pc ls c.2.1 c.2.2.2 (q_run E (n1 + n2) c.1 0 (q_ent c.1 c.2.2.1) [] h) = some r
            rw [q_run_up E n1 n2 _ _ _ _ _ _ h1]
            refine q_bk_mono ?_ h2
            rw [Nat.add_comm]
            exact q_run_up E n2 n1
      obtain ⟨n, hn⟩ := key
      refine q_ex_of (n := n + 1) ?_
      show (q_step E M pc ls st h).bind (q_k (q_run E n) M pc ls h) = some r
      rw [e]
      exact hn
end
section
/-! how the abstract heap and locals stand for the machine's -/
def q_cv (cid : Nat → ClassId) : va_E → va_E
  | .inl x => .inl (cid x.1, x.2)
  | .inr o => .inr o
def q_at (t : Nat) : FieldType := match t with
  | 0 => .int
  | 1 => .long
  | 2 => .boolean
  | 3 => .char
  | 4 => .byte
  | 5 => .object RX5
  | 6 => .object RX3
  | 7 => .object RX6
  | _ => .array .int
def q_tys (cid : Nat → ClassId) : List (ClassId × FieldType) := (List.range 9).map fun t => (cid t, q_at t)
theorem q_tys_at (cid : Nat → ClassId) : ∀ t, t < 9 → (q_tys cid)[t]? = some (cid t, q_at t)
  | 0, _ => rfl
  | 1, _ => rfl
  | 2, _ => rfl
  | 3, _ => rfl
  | 4, _ => rfl
  | 5, _ => rfl
  | 6, _ => rfl
  | 7, _ => rfl
  | 8, _ => rfl
def q_hp (D : va_G) (cid : Nat → ClassId) (b0 : Nat) (h : q_H) (H : Heap) : Prop :=
  (∀ t, h.2.1 = some t → H.size = t) ∧ ∀ a e, h.1 a = some e → b0 ≤ a ∧ va_at D q_cls (a, q_cv cid e) H
theorem q_hp_put {D : va_G} {cid : Nat → ClassId} {b0 a : Nat} {e : va_E} {h : q_H} {H H1 : Heap} (hh : q_hp D cid b0 h H) (hz : H1.size = H.size) (hb : b0 ≤ a) (ho : ∀ q : Nat, q ≠ a → H1[q]? = H[q]?) (hn : va_at D q_cls (a, q_cv cid e) H1) : q_hp D cid b0 (q_up h a e) H1 := by
  refine ⟨fun t ht => hz.trans (hh.1 t ht), fun b e' hb' => ?_⟩
  have hb' : (if b = a then some e else h.1 b) = some e' := hb'
  by_cases hba : b = a
  · subst hba
    rw [if_pos rfl] at hb'
    cases hb'
    exact ⟨hb, hn⟩
  · rw [if_neg hba] at hb'
    exact ⟨(hh.2 b e' hb').1, (hh.2 b e' hb').2.kept (ho b hba)⟩
theorem q_hp_new {D : va_G} {cid : Nat → ClassId} {b0 a n : Nat} {e : va_E} {h : q_H} {H H1 : Heap} (hh : q_hp D cid b0 h H) (ha : H.size = a) (hz : H1.size = a + 1) (hb : b0 ≤ a) (ho : ∀ q : Nat, q < a → H1[q]? = H[q]?) (hn : va_at D q_cls (a, q_cv cid e) H1) : q_hp D cid b0 (q_al h a e n) H1 := by
  refine ⟨fun t ht => by cases ht; exact hz, fun b e' hb' => ?_⟩
  have hb' : (if b = a then some e else h.1 b) = some e' := hb'
  by_cases hba : b = a
  · subst hba
    rw [if_pos rfl] at hb'
    cases hb'
    exact ⟨hb, hn⟩
  · rw [if_neg hba] at hb'
    have hk := hh.2 b e' hb'
    exact ⟨hk.1, hk.2.kept (ho b (by have := hk.2.lt; dsimp only at this; omega))⟩
/-- the locals -/
def q_L (L : Array Slot) (n : Nat) (ls : List Value) : Prop := ls.length = n ∧ L.size = n ∧ lv_wf L ∧ ∀ (i : Nat) (v : Value), ls[i]? = some v → v ≠ .null → L[i]? = some (.val v)
def q_lv (ls : List Value) : List (Nat × Value) := (List.range ls.length).filterMap fun i => match (ls[i]? : Option Value) with
  | some .null => none
  | some v => some (i, v)
  | none => none
theorem q_lv_mem {ls : List Value} {i : Nat} {v : Value} : (i, v) ∈ q_lv ls ↔ ls[i]? = some v ∧ v ≠ .null := by
  unfold q_lv
  rw [List.mem_filterMap]
  constructor
  · rintro ⟨j, -, hj⟩
    split at hj
    · cases hj
    · rename_i w hw hn
      cases hj
      exact ⟨hn, hw⟩
    · cases hj
  · rintro ⟨h1, h2⟩
    refine ⟨i, List.mem_range.mpr (List.getElem?_eq_some_iff.mp h1).1, ?_⟩
    rw [h1]
    split
    · rename_i e
      cases e
      exact absurd rfl h2
    · rename_i e
      cases e
      rfl
    · rename_i e
      cases e
theorem q_L.has {L : Array Slot} {n : Nat} {ls : List Value} (h : q_L L n ls) : lv_has L n (q_lv ls) := ⟨h.2.1, h.2.2.1, fun q hq => by
  obtain ⟨i, v⟩ := q
  obtain ⟨h1, h2⟩ := q_lv_mem.mp hq
  exact h.2.2.2 i v h1 h2⟩
theorem q_L.at {L : Array Slot} {n : Nat} {ls : List Value} (h : q_L L n ls) {i : Nat} {v : Value} (hi : ls[i]? = some v) (hv : v ≠ .null) : L[i]? = some (.val v) := h.2.2.2 i v hi hv
theorem q_st1_len (ls : List Value) (i : Nat) (v : Value) : (q_st1 ls i v).length = ls.length := by
  cases i with
  | zero => simp [q_st1]
  | succ j => simp only [q_st1]; split <;> simp
theorem q_st1_get {ls : List Value} {i j : Nat} {v w : Value} (h : (q_st1 ls i v)[j]? = some w) (hw : w ≠ .null) (hj : j ≠ i) : ls[j]? = some w ∧ ¬ (j + 1 = i ∧ w.category = 2) := by
  cases i with
  | zero =>
    simp only [q_st1] at h
    rw [List.getElem?_set_ne (Ne.symm hj)] at h
    exact ⟨h, fun ⟨q, _⟩ => by omega⟩
  | succ k =>
    simp only [q_st1] at h
    rw [List.getElem?_set_ne (Ne.symm hj)] at h
    split at h
    · rename_i hc
      by_cases hk : j = k
      · subst hk
        rw [List.getElem?_set] at h
        split at h
        · split at h
          · cases h; exact absurd rfl hw
          · cases h
        · exact absurd rfl ‹_›
      · rw [List.getElem?_set_ne (Ne.symm hk)] at h
        exact ⟨h, fun ⟨q, _⟩ => hk (by omega)⟩
    · rename_i hc
      refine ⟨h, fun ⟨q, hq⟩ => ?_⟩
      have hjk : j = k := by omega
      subst hjk
      apply hc
      unfold q_ld
      rw [List.getD_eq_getElem?_getD, h]
      exact hq
theorem q_L.st1 {L1 : Array Slot} {n : Nat} {ls : List Value} {i : Nat} {v : Value} (hn : ls.length = n) (h : lv_has L1 n ((i, v) :: (q_lv ls).filter (fun q => !(q.1 == i) && !(q.1 + 1 == i && q.2.category == 2)))) : q_L L1 n (q_st1 ls i v) := by
  refine ⟨(q_st1_len ls i v).trans hn, h.1, h.2.1, fun j w hj hw => ?_⟩
  by_cases e : j = i
  · subst e
    have hv : w = v := by
      have hlt : j < (q_st1 ls j v).length := (List.getElem?_eq_some_iff.mp hj).1
      rw [q_st1_len] at hlt
      cases j with
      | zero =>
        simp only [q_st1] at hj
        rw [List.getElem?_set_self hlt] at hj
        exact (Option.some.inj hj).symm
      | succ k =>
        simp only [q_st1] at hj
        rw [List.getElem?_set_self (by split <;> first | exact hlt | simpa using hlt)] at hj
        exact (Option.some.inj hj).symm
    subst hv
    exact h.2.2 (j, w) List.mem_cons_self
  · obtain ⟨h1, h2⟩ := q_st1_get hj hw e
    refine h.2.2 (j, w) (List.mem_cons_of_mem _ (List.mem_filter.mpr ⟨q_lv_mem.mpr ⟨h1, hw⟩, ?_⟩))
    simp only [Bool.and_eq_true, Bool.not_eq_true', beq_eq_false_iff_ne, ne_eq, Bool.and_eq_false_imp, beq_iff_eq]
    exact ⟨e, fun h3 h4 => h2 ⟨h3, h4⟩⟩
theorem q_L.st2 {L1 : Array Slot} {n : Nat} {ls : List Value} {i : Nat} {v : Value} (hn : ls.length = n) (h : lv_has L1 n ((i, v) :: (q_lv ls).filter (fun q => !(q.1 == i) && (!(q.1 == i + 1) && !(q.1 + 1 == i && q.2.category == 2))))) : q_L L1 n (q_st2 ls i v) := by
  refine ⟨by simp only [q_st2, List.length_set]; exact (q_st1_len ls i v).trans hn, h.1, h.2.1, fun j w hj hw => ?_⟩
  unfold q_st2 at hj
  by_cases e2 : j = i + 1
  · subst e2
    rw [List.getElem?_set] at hj
    rw [if_pos rfl] at hj
    split at hj
    · cases hj; exact absurd rfl hw
    · cases hj
  rw [List.getElem?_set_ne (Ne.symm e2)] at hj
  by_cases e : j = i
  · subst e
    have hv : w = v := by
      have hlt : j < (q_st1 ls j v).length := (List.getElem?_eq_some_iff.mp hj).1
      rw [q_st1_len] at hlt
      cases j with
      | zero =>
        simp only [q_st1] at hj
        rw [List.getElem?_set_self hlt] at hj
        exact (Option.some.inj hj).symm
      | succ k =>
        simp only [q_st1] at hj
        rw [List.getElem?_set_self (by split <;> first | exact hlt | simpa using hlt)] at hj
        exact (Option.some.inj hj).symm
    subst hv
    exact h.2.2 (j, w) List.mem_cons_self
  · obtain ⟨h1, h2⟩ := q_st1_get hj hw e
    refine h.2.2 (j, w) (List.mem_cons_of_mem _ (List.mem_filter.mpr ⟨q_lv_mem.mpr ⟨h1, hw⟩, ?_⟩))
    simp only [Bool.and_eq_true, Bool.not_eq_true', beq_eq_false_iff_ne, ne_eq, Bool.and_eq_false_imp, beq_iff_eq]
    exact ⟨e, e2, fun h3 h4 => h2 ⟨h3, h4⟩⟩
theorem q_tgt_ok {pc t : Nat} {off : Int} (h : q_tgt pc off = some t) : (pc : Int) + off = (t : Int) := by
  unfold q_tgt at h
  split at h
  · rename_i u e
    cases h
    exact e
  · cases h
end
section
/-! each instruction of the abstract machine is the machine's -/
abbrev q_A (s0 : State) : Nat → Prop := fun q => s0.heap.size ≤ q
/-- the static fields, by number -/
def q_sc : Nat → String × String × String
  | 0 => ("RobotAisles", "SETTING_FIRST", "[I")
  | 1 => ("RobotAisles", "SETTING_LEAST", "[I")
  | 2 => ("RobotAisles", "SETTING_MOST", "[I")
  | 3 => ("RobotAisles", "SIGNS", "[C")
  | 4 => ("java/lang/String", "COMPACT_STRINGS", "Z")
  | _ => ("jdk/internal/util/Preconditions", "SIOOBE_FORMATTER", "Ljava/util/function/BiFunction;")
/-- what holds at the law's start s0, of what doesn't change -/
def q_G (E : q_E) (D : va_G) (cid : Nat → ClassId) (s0 : State) : Prop :=
  va_K D q_cls (q_tys cid) s0 ∧ (∀ j v, E.1 j = some v → j < 6 → va_Z (q_sc j).1 (q_sc j).2.1 (q_sc j).2.2 v (q_A s0) s0 s0.heap) ∧ (∀ a ty n f, E.2 a = some (ty, n, f) → va_T ty a n f (q_A s0) s0 s0.heap) ∧
  (vx_Zq Bundle.tN "UNASSIGNED_STACK" Bundle.steD (q_A s0) s0 s0.heap ∧ vx_Zq Bundle.tN "SUPPRESSED_SENTINEL" Bundle.listD (q_A s0) s0 s0.heap) ∧
  (∀ w ∈ lw_tbl, w.onTables = true → w.before #[] s0 = true) ∧ (∀ t, 5 ≤ t → t < 8 → (Cond.arrayOver (q_at t)).before #[] s0 = true) ∧ (Cond.arrayOver (.array .int)).before #[] s0 = true ∧
  (∀ x nm, q_ncb x nm = true → va_Nc x nm s0) ∧
  (∃ adK adV : Nat → Nat, (∀ i, i < 8 → E.1 (6 + 2 * i) = some (.ref (adK i)) ∧ E.1 (7 + 2 * i) = some (.ref (adV i)) ∧ vk_R RL (q_six i) (q_stx i) (adK i) s0) ∧ vk_S 8 q_sle q_sby adK adV (q_A s0) s0 s0.heap)
/-- a later state -/
def q_Y (s0 s : State) : Prop := s0.WarmedH s.vm ∧ s0.heap.size ≤ s.heap.size ∧ ∀ q : Nat, q < s0.heap.size → s.heap[q]? = s0.heap[q]?
/-- a frame of the method M -/
def q_Fx (p : Program) (s : State) (m : MethodId) (args : Array Value) (meth : Method) (c : Code) (R : Room) (M : q_M) : Prop :=
  p.tables.exec = Jvm.exec ∧ c.code = M.2.1 ∧ meth.sig.returnType = q_ret M ∧ c.maxLocals = M.2.2.1 ∧ s.vm.findClass (q_nm (q_own M)) = some m.cls ∧ (∀ w ∈ lw_tbl, goodWord w = true → w.before args s = true) ∧ meth.locks = false ∧ (M.1.name = "<init>" → meth.name = "<init>") ∧ (¬ q_hnd M = [] → c.exceptionTable.toList = tableOf (q_hnd M)) ∧ q_hgt M ≤ R.frames ∧ 64 * (q_hgt M + 2) ≤ R.locals
section QN
variable {p : Program} {l : Launch} {e : Env} {R : Room} {s s0 : State} {m : MethodId} {args : Array Value} {below : List Frame} {meth : Method} {c : Code} {H : Heap} {locs : List Loc} {Q : State → Prop}
variable {E : q_E} {D : va_G} {cid : Nat → ClassId} {M : q_M} {pc : Nat} {ls st : List Value} {h : q_H} {L : Array Slot} {f : q_F} {c0 n0 : Nat}
theorem q_K (hG : q_G E D cid s0) (hY : q_Y s0 s) : va_K D q_cls (q_tys cid) s := hG.1.moved hY.1.alike
theorem q_word {i : Nat} {w : Cond} (hts : ∀ w ∈ lw_tbl, goodWord w = true → w.before args s = true) (hi : lw_tbl[i]? = some w) (hg : goodWord w = true) : w.before args s = true := hts w (List.mem_of_getElem? hi) hg
theorem q_Tat (hG : q_G E D cid s0) (hY : q_Y s0 s) {a n : Nat} {ty : FieldType} {g : Nat → Value} (ha : E.2 a = some (ty, n, g)) : va_T ty a n g (q_A s0) s s.heap := ((hG.2.2.1 a ty n g ha).moved hY.1.alike).kept (fun q h1 _ => hY.2.2 q h1)
theorem q_Zat (hG : q_G E D cid s0) (hY : q_Y s0 s) {j : Nat} {v : Value} (ha : E.1 j = some v) (hj : j < 6) : va_Z (q_sc j).1 (q_sc j).2.1 (q_sc j).2.2 v (q_A s0) s s.heap := ((hG.2.1 j v ha hj).moved hY.1.alike).kept (fun q h1 _ => hY.2.2 q h1)
theorem q_Sat (hG : q_G E D cid s0) (hY : q_Y s0 s) : ∃ adK adV : Nat → Nat, (∀ i, i < 8 → E.1 (6 + 2 * i) = some (.ref (adK i)) ∧ E.1 (7 + 2 * i) = some (.ref (adV i)) ∧ vk_R RL (q_six i) (q_stx i) (adK i) s) ∧ vk_S 8 q_sle q_sby adK adV (q_A s0) s s.heap := by
  obtain ⟨adK, adV, h1, h2⟩ := hG.2.2.2.2.2.2.2.2
  exact ⟨adK, adV, fun i hi => ⟨(h1 i hi).1, (h1 i hi).2.1, vk_R.warm hY.1 (h1 i hi).2.2⟩, (h2.moved hY.1.alike).kept (fun q k1 _ => hY.2.2 q k1)⟩
theorem va_ldcSW {cc : ByteArray} (hexec : p.tables.exec = Jvm.exec) (hb : c.code = cc) {own tx : String} {index q : Nat} {ls : Array Slot} {rest : List Value} {cells slots : Nat} (hown : s.vm.findClass own = some m.cls) (hZ : vk_R own index tx q s) (hdg : decode cc pc = .ok (.ldc_w index, 3))
    (k : W p l e R s m args below meth c H locs cells slots Q (F0 m (pc + 3) ls (.ref q :: rest))) : W p l e R s m args below meth c H locs cells slots Q (F0 m pc ls rest) := by
  intro T hT X
  obtain ⟨t, a1, b1⟩ := k T hT X
  exact ⟨t, X.ldcStringW hexec hown (text := tx) (a := q) hZ.1 hZ.2 (g := F0 m pc ls rest) rfl (by rw [hb]; exact hdg) t a1, b1⟩
theorem q_n_iconst {n : Int} (hF : q_Fx p s m args meth c R M) (hG : q_G E D cid s0) (hY : q_Y s0 s) {len : Nat} (hd : decode M.2.1 pc = .ok (.iconst n, len)) (hs : q_stepI E M (.iconst n) len pc ls st h = some (.inl f)) (hbd : c0 ≤ h.2.2.1 ∧ n0 ≤ h.2.2.2 ∧ f.2.2.2.2.2.1 - c0 ≤ R.cells ∧ f.2.2.2.2.2.2 - n0 ≤ R.slots) (hH : q_hp D cid s0.heap.size h H) (hS : va_S (q_A s0) s.heap H locs) (hL : q_L L M.2.2.1 ls) (kk : ∀ (H1 : Heap) (locs1 : List Loc) (L1 : Array Slot), q_hp D cid s0.heap.size f.2.2.2 H1 → va_S (q_A s0) s.heap H1 locs1 → q_L L1 M.2.2.1 f.2.1 → W p l e R s m args below meth c H1 locs1 (f.2.2.2.2.2.1 - c0) (f.2.2.2.2.2.2 - n0) Q (F0 m f.1 L1 f.2.2.1)) : W p l e R s m args below meth c H locs (h.2.2.1 - c0) (h.2.2.2 - n0) Q (F0 m pc L st) := by
  obtain ⟨hx, hb, hr, hml, hown, hts, hlk, hnm, htab, hfr, hlo⟩ := hF
  simp only [q_stepI, q_nx] at hs
  split at hs
  · rename_i hlen
    subst hlen
    cases hs
    exact lv_iconst hx hb hd rfl (kk H locs L hH hS hL)
  · cases hs
theorem q_n_bipush {n : Int} (hF : q_Fx p s m args meth c R M) (hG : q_G E D cid s0) (hY : q_Y s0 s) {len : Nat} (hd : decode M.2.1 pc = .ok (.bipush n, len)) (hs : q_stepI E M (.bipush n) len pc ls st h = some (.inl f)) (hbd : c0 ≤ h.2.2.1 ∧ n0 ≤ h.2.2.2 ∧ f.2.2.2.2.2.1 - c0 ≤ R.cells ∧ f.2.2.2.2.2.2 - n0 ≤ R.slots) (hH : q_hp D cid s0.heap.size h H) (hS : va_S (q_A s0) s.heap H locs) (hL : q_L L M.2.2.1 ls) (kk : ∀ (H1 : Heap) (locs1 : List Loc) (L1 : Array Slot), q_hp D cid s0.heap.size f.2.2.2 H1 → va_S (q_A s0) s.heap H1 locs1 → q_L L1 M.2.2.1 f.2.1 → W p l e R s m args below meth c H1 locs1 (f.2.2.2.2.2.1 - c0) (f.2.2.2.2.2.2 - n0) Q (F0 m f.1 L1 f.2.2.1)) : W p l e R s m args below meth c H locs (h.2.2.1 - c0) (h.2.2.2 - n0) Q (F0 m pc L st) := by
  obtain ⟨hx, hb, hr, hml, hown, hts, hlk, hnm, htab, hfr, hlo⟩ := hF
  simp only [q_stepI, q_nx] at hs
  split at hs
  · rename_i hlen
    subst hlen
    cases hs
    exact lv_bipush hx hb hd rfl (kk H locs L hH hS hL)
  · cases hs
theorem q_n_sipush {n : Int} (hF : q_Fx p s m args meth c R M) (hG : q_G E D cid s0) (hY : q_Y s0 s) {len : Nat} (hd : decode M.2.1 pc = .ok (.sipush n, len)) (hs : q_stepI E M (.sipush n) len pc ls st h = some (.inl f)) (hbd : c0 ≤ h.2.2.1 ∧ n0 ≤ h.2.2.2 ∧ f.2.2.2.2.2.1 - c0 ≤ R.cells ∧ f.2.2.2.2.2.2 - n0 ≤ R.slots) (hH : q_hp D cid s0.heap.size h H) (hS : va_S (q_A s0) s.heap H locs) (hL : q_L L M.2.2.1 ls) (kk : ∀ (H1 : Heap) (locs1 : List Loc) (L1 : Array Slot), q_hp D cid s0.heap.size f.2.2.2 H1 → va_S (q_A s0) s.heap H1 locs1 → q_L L1 M.2.2.1 f.2.1 → W p l e R s m args below meth c H1 locs1 (f.2.2.2.2.2.1 - c0) (f.2.2.2.2.2.2 - n0) Q (F0 m f.1 L1 f.2.2.1)) : W p l e R s m args below meth c H locs (h.2.2.1 - c0) (h.2.2.2 - n0) Q (F0 m pc L st) := by
  obtain ⟨hx, hb, hr, hml, hown, hts, hlk, hnm, htab, hfr, hlo⟩ := hF
  simp only [q_stepI, q_nx] at hs
  split at hs
  · rename_i hlen
    subst hlen
    cases hs
    exact lv_sipush hx hb hd rfl (kk H locs L hH hS hL)
  · cases hs
theorem q_n_lconst {n : Fin 2} (hF : q_Fx p s m args meth c R M) (hG : q_G E D cid s0) (hY : q_Y s0 s) {len : Nat} (hd : decode M.2.1 pc = .ok (.lconst n, len)) (hs : q_stepI E M (.lconst n) len pc ls st h = some (.inl f)) (hbd : c0 ≤ h.2.2.1 ∧ n0 ≤ h.2.2.2 ∧ f.2.2.2.2.2.1 - c0 ≤ R.cells ∧ f.2.2.2.2.2.2 - n0 ≤ R.slots) (hH : q_hp D cid s0.heap.size h H) (hS : va_S (q_A s0) s.heap H locs) (hL : q_L L M.2.2.1 ls) (kk : ∀ (H1 : Heap) (locs1 : List Loc) (L1 : Array Slot), q_hp D cid s0.heap.size f.2.2.2 H1 → va_S (q_A s0) s.heap H1 locs1 → q_L L1 M.2.2.1 f.2.1 → W p l e R s m args below meth c H1 locs1 (f.2.2.2.2.2.1 - c0) (f.2.2.2.2.2.2 - n0) Q (F0 m f.1 L1 f.2.2.1)) : W p l e R s m args below meth c H locs (h.2.2.1 - c0) (h.2.2.2 - n0) Q (F0 m pc L st) := by
  obtain ⟨hx, hb, hr, hml, hown, hts, hlk, hnm, htab, hfr, hlo⟩ := hF
  simp only [q_stepI, q_nx] at hs
  split at hs
  · rename_i hlen
    subst hlen
    cases hs
    exact lv_lconst hx hb hd rfl (kk H locs L hH hS hL)
  · cases hs
theorem q_n_iadd (hF : q_Fx p s m args meth c R M) (hG : q_G E D cid s0) (hY : q_Y s0 s) {len : Nat} (hd : decode M.2.1 pc = .ok (.iadd, len)) (hs : q_stepI E M (.iadd) len pc ls st h = some (.inl f)) (hbd : c0 ≤ h.2.2.1 ∧ n0 ≤ h.2.2.2 ∧ f.2.2.2.2.2.1 - c0 ≤ R.cells ∧ f.2.2.2.2.2.2 - n0 ≤ R.slots) (hH : q_hp D cid s0.heap.size h H) (hS : va_S (q_A s0) s.heap H locs) (hL : q_L L M.2.2.1 ls) (kk : ∀ (H1 : Heap) (locs1 : List Loc) (L1 : Array Slot), q_hp D cid s0.heap.size f.2.2.2 H1 → va_S (q_A s0) s.heap H1 locs1 → q_L L1 M.2.2.1 f.2.1 → W p l e R s m args below meth c H1 locs1 (f.2.2.2.2.2.1 - c0) (f.2.2.2.2.2.2 - n0) Q (F0 m f.1 L1 f.2.2.1)) : W p l e R s m args below meth c H locs (h.2.2.1 - c0) (h.2.2.2 - n0) Q (F0 m pc L st) := by
  obtain ⟨hx, hb, hr, hml, hown, hts, hlk, hnm, htab, hfr, hlo⟩ := hF
  simp only [q_stepI, q_nx] at hs
  split at hs
  · split at hs
    · rename_i hlen
      subst hlen
      cases hs
      exact lv_iadd hx hb hd (kk H locs L hH hS hL)
    · cases hs
  · cases hs
theorem q_n_isub (hF : q_Fx p s m args meth c R M) (hG : q_G E D cid s0) (hY : q_Y s0 s) {len : Nat} (hd : decode M.2.1 pc = .ok (.isub, len)) (hs : q_stepI E M (.isub) len pc ls st h = some (.inl f)) (hbd : c0 ≤ h.2.2.1 ∧ n0 ≤ h.2.2.2 ∧ f.2.2.2.2.2.1 - c0 ≤ R.cells ∧ f.2.2.2.2.2.2 - n0 ≤ R.slots) (hH : q_hp D cid s0.heap.size h H) (hS : va_S (q_A s0) s.heap H locs) (hL : q_L L M.2.2.1 ls) (kk : ∀ (H1 : Heap) (locs1 : List Loc) (L1 : Array Slot), q_hp D cid s0.heap.size f.2.2.2 H1 → va_S (q_A s0) s.heap H1 locs1 → q_L L1 M.2.2.1 f.2.1 → W p l e R s m args below meth c H1 locs1 (f.2.2.2.2.2.1 - c0) (f.2.2.2.2.2.2 - n0) Q (F0 m f.1 L1 f.2.2.1)) : W p l e R s m args below meth c H locs (h.2.2.1 - c0) (h.2.2.2 - n0) Q (F0 m pc L st) := by
  obtain ⟨hx, hb, hr, hml, hown, hts, hlk, hnm, htab, hfr, hlo⟩ := hF
  simp only [q_stepI, q_nx] at hs
  split at hs
  · split at hs
    · rename_i hlen
      subst hlen
      cases hs
      exact lv_isub hx hb hd (kk H locs L hH hS hL)
    · cases hs
  · cases hs
theorem q_n_imul (hF : q_Fx p s m args meth c R M) (hG : q_G E D cid s0) (hY : q_Y s0 s) {len : Nat} (hd : decode M.2.1 pc = .ok (.imul, len)) (hs : q_stepI E M (.imul) len pc ls st h = some (.inl f)) (hbd : c0 ≤ h.2.2.1 ∧ n0 ≤ h.2.2.2 ∧ f.2.2.2.2.2.1 - c0 ≤ R.cells ∧ f.2.2.2.2.2.2 - n0 ≤ R.slots) (hH : q_hp D cid s0.heap.size h H) (hS : va_S (q_A s0) s.heap H locs) (hL : q_L L M.2.2.1 ls) (kk : ∀ (H1 : Heap) (locs1 : List Loc) (L1 : Array Slot), q_hp D cid s0.heap.size f.2.2.2 H1 → va_S (q_A s0) s.heap H1 locs1 → q_L L1 M.2.2.1 f.2.1 → W p l e R s m args below meth c H1 locs1 (f.2.2.2.2.2.1 - c0) (f.2.2.2.2.2.2 - n0) Q (F0 m f.1 L1 f.2.2.1)) : W p l e R s m args below meth c H locs (h.2.2.1 - c0) (h.2.2.2 - n0) Q (F0 m pc L st) := by
  obtain ⟨hx, hb, hr, hml, hown, hts, hlk, hnm, htab, hfr, hlo⟩ := hF
  simp only [q_stepI, q_nx] at hs
  split at hs
  · split at hs
    · rename_i hlen
      subst hlen
      cases hs
      exact lv_imul hx hb hd (kk H locs L hH hS hL)
    · cases hs
  · cases hs
theorem q_n_iand (hF : q_Fx p s m args meth c R M) (hG : q_G E D cid s0) (hY : q_Y s0 s) {len : Nat} (hd : decode M.2.1 pc = .ok (.iand, len)) (hs : q_stepI E M (.iand) len pc ls st h = some (.inl f)) (hbd : c0 ≤ h.2.2.1 ∧ n0 ≤ h.2.2.2 ∧ f.2.2.2.2.2.1 - c0 ≤ R.cells ∧ f.2.2.2.2.2.2 - n0 ≤ R.slots) (hH : q_hp D cid s0.heap.size h H) (hS : va_S (q_A s0) s.heap H locs) (hL : q_L L M.2.2.1 ls) (kk : ∀ (H1 : Heap) (locs1 : List Loc) (L1 : Array Slot), q_hp D cid s0.heap.size f.2.2.2 H1 → va_S (q_A s0) s.heap H1 locs1 → q_L L1 M.2.2.1 f.2.1 → W p l e R s m args below meth c H1 locs1 (f.2.2.2.2.2.1 - c0) (f.2.2.2.2.2.2 - n0) Q (F0 m f.1 L1 f.2.2.1)) : W p l e R s m args below meth c H locs (h.2.2.1 - c0) (h.2.2.2 - n0) Q (F0 m pc L st) := by
  obtain ⟨hx, hb, hr, hml, hown, hts, hlk, hnm, htab, hfr, hlo⟩ := hF
  simp only [q_stepI, q_nx] at hs
  split at hs
  · split at hs
    · rename_i hlen
      subst hlen
      cases hs
      exact lv_iand hx hb hd (kk H locs L hH hS hL)
    · cases hs
  · cases hs
theorem q_n_ior (hF : q_Fx p s m args meth c R M) (hG : q_G E D cid s0) (hY : q_Y s0 s) {len : Nat} (hd : decode M.2.1 pc = .ok (.ior, len)) (hs : q_stepI E M (.ior) len pc ls st h = some (.inl f)) (hbd : c0 ≤ h.2.2.1 ∧ n0 ≤ h.2.2.2 ∧ f.2.2.2.2.2.1 - c0 ≤ R.cells ∧ f.2.2.2.2.2.2 - n0 ≤ R.slots) (hH : q_hp D cid s0.heap.size h H) (hS : va_S (q_A s0) s.heap H locs) (hL : q_L L M.2.2.1 ls) (kk : ∀ (H1 : Heap) (locs1 : List Loc) (L1 : Array Slot), q_hp D cid s0.heap.size f.2.2.2 H1 → va_S (q_A s0) s.heap H1 locs1 → q_L L1 M.2.2.1 f.2.1 → W p l e R s m args below meth c H1 locs1 (f.2.2.2.2.2.1 - c0) (f.2.2.2.2.2.2 - n0) Q (F0 m f.1 L1 f.2.2.1)) : W p l e R s m args below meth c H locs (h.2.2.1 - c0) (h.2.2.2 - n0) Q (F0 m pc L st) := by
  obtain ⟨hx, hb, hr, hml, hown, hts, hlk, hnm, htab, hfr, hlo⟩ := hF
  simp only [q_stepI, q_nx] at hs
  split at hs
  · split at hs
    · rename_i hlen
      subst hlen
      cases hs
      exact lv_ior hx hb hd (kk H locs L hH hS hL)
    · cases hs
  · cases hs
theorem q_n_ishl (hF : q_Fx p s m args meth c R M) (hG : q_G E D cid s0) (hY : q_Y s0 s) {len : Nat} (hd : decode M.2.1 pc = .ok (.ishl, len)) (hs : q_stepI E M (.ishl) len pc ls st h = some (.inl f)) (hbd : c0 ≤ h.2.2.1 ∧ n0 ≤ h.2.2.2 ∧ f.2.2.2.2.2.1 - c0 ≤ R.cells ∧ f.2.2.2.2.2.2 - n0 ≤ R.slots) (hH : q_hp D cid s0.heap.size h H) (hS : va_S (q_A s0) s.heap H locs) (hL : q_L L M.2.2.1 ls) (kk : ∀ (H1 : Heap) (locs1 : List Loc) (L1 : Array Slot), q_hp D cid s0.heap.size f.2.2.2 H1 → va_S (q_A s0) s.heap H1 locs1 → q_L L1 M.2.2.1 f.2.1 → W p l e R s m args below meth c H1 locs1 (f.2.2.2.2.2.1 - c0) (f.2.2.2.2.2.2 - n0) Q (F0 m f.1 L1 f.2.2.1)) : W p l e R s m args below meth c H locs (h.2.2.1 - c0) (h.2.2.2 - n0) Q (F0 m pc L st) := by
  obtain ⟨hx, hb, hr, hml, hown, hts, hlk, hnm, htab, hfr, hlo⟩ := hF
  simp only [q_stepI, q_nx] at hs
  split at hs
  · split at hs
    · rename_i hlen
      subst hlen
      cases hs
      exact lv_ishl hx hb hd (kk H locs L hH hS hL)
    · cases hs
  · cases hs
theorem q_n_ishr (hF : q_Fx p s m args meth c R M) (hG : q_G E D cid s0) (hY : q_Y s0 s) {len : Nat} (hd : decode M.2.1 pc = .ok (.ishr, len)) (hs : q_stepI E M (.ishr) len pc ls st h = some (.inl f)) (hbd : c0 ≤ h.2.2.1 ∧ n0 ≤ h.2.2.2 ∧ f.2.2.2.2.2.1 - c0 ≤ R.cells ∧ f.2.2.2.2.2.2 - n0 ≤ R.slots) (hH : q_hp D cid s0.heap.size h H) (hS : va_S (q_A s0) s.heap H locs) (hL : q_L L M.2.2.1 ls) (kk : ∀ (H1 : Heap) (locs1 : List Loc) (L1 : Array Slot), q_hp D cid s0.heap.size f.2.2.2 H1 → va_S (q_A s0) s.heap H1 locs1 → q_L L1 M.2.2.1 f.2.1 → W p l e R s m args below meth c H1 locs1 (f.2.2.2.2.2.1 - c0) (f.2.2.2.2.2.2 - n0) Q (F0 m f.1 L1 f.2.2.1)) : W p l e R s m args below meth c H locs (h.2.2.1 - c0) (h.2.2.2 - n0) Q (F0 m pc L st) := by
  obtain ⟨hx, hb, hr, hml, hown, hts, hlk, hnm, htab, hfr, hlo⟩ := hF
  simp only [q_stepI, q_nx] at hs
  split at hs
  · split at hs
    · rename_i hlen
      subst hlen
      cases hs
      exact lv_ishr hx hb hd (kk H locs L hH hS hL)
    · cases hs
  · cases hs
theorem q_n_land (hF : q_Fx p s m args meth c R M) (hG : q_G E D cid s0) (hY : q_Y s0 s) {len : Nat} (hd : decode M.2.1 pc = .ok (.land, len)) (hs : q_stepI E M (.land) len pc ls st h = some (.inl f)) (hbd : c0 ≤ h.2.2.1 ∧ n0 ≤ h.2.2.2 ∧ f.2.2.2.2.2.1 - c0 ≤ R.cells ∧ f.2.2.2.2.2.2 - n0 ≤ R.slots) (hH : q_hp D cid s0.heap.size h H) (hS : va_S (q_A s0) s.heap H locs) (hL : q_L L M.2.2.1 ls) (kk : ∀ (H1 : Heap) (locs1 : List Loc) (L1 : Array Slot), q_hp D cid s0.heap.size f.2.2.2 H1 → va_S (q_A s0) s.heap H1 locs1 → q_L L1 M.2.2.1 f.2.1 → W p l e R s m args below meth c H1 locs1 (f.2.2.2.2.2.1 - c0) (f.2.2.2.2.2.2 - n0) Q (F0 m f.1 L1 f.2.2.1)) : W p l e R s m args below meth c H locs (h.2.2.1 - c0) (h.2.2.2 - n0) Q (F0 m pc L st) := by
  obtain ⟨hx, hb, hr, hml, hown, hts, hlk, hnm, htab, hfr, hlo⟩ := hF
  simp only [q_stepI, q_nx] at hs
  split at hs
  · split at hs
    · rename_i hlen
      subst hlen
      cases hs
      exact lv_land hx hb hd (kk H locs L hH hS hL)
    · cases hs
  · cases hs
theorem q_n_lor (hF : q_Fx p s m args meth c R M) (hG : q_G E D cid s0) (hY : q_Y s0 s) {len : Nat} (hd : decode M.2.1 pc = .ok (.lor, len)) (hs : q_stepI E M (.lor) len pc ls st h = some (.inl f)) (hbd : c0 ≤ h.2.2.1 ∧ n0 ≤ h.2.2.2 ∧ f.2.2.2.2.2.1 - c0 ≤ R.cells ∧ f.2.2.2.2.2.2 - n0 ≤ R.slots) (hH : q_hp D cid s0.heap.size h H) (hS : va_S (q_A s0) s.heap H locs) (hL : q_L L M.2.2.1 ls) (kk : ∀ (H1 : Heap) (locs1 : List Loc) (L1 : Array Slot), q_hp D cid s0.heap.size f.2.2.2 H1 → va_S (q_A s0) s.heap H1 locs1 → q_L L1 M.2.2.1 f.2.1 → W p l e R s m args below meth c H1 locs1 (f.2.2.2.2.2.1 - c0) (f.2.2.2.2.2.2 - n0) Q (F0 m f.1 L1 f.2.2.1)) : W p l e R s m args below meth c H locs (h.2.2.1 - c0) (h.2.2.2 - n0) Q (F0 m pc L st) := by
  obtain ⟨hx, hb, hr, hml, hown, hts, hlk, hnm, htab, hfr, hlo⟩ := hF
  simp only [q_stepI, q_nx] at hs
  split at hs
  · split at hs
    · rename_i hlen
      subst hlen
      cases hs
      exact lv_lor hx hb hd (kk H locs L hH hS hL)
    · cases hs
  · cases hs
theorem q_n_lxor (hF : q_Fx p s m args meth c R M) (hG : q_G E D cid s0) (hY : q_Y s0 s) {len : Nat} (hd : decode M.2.1 pc = .ok (.lxor, len)) (hs : q_stepI E M (.lxor) len pc ls st h = some (.inl f)) (hbd : c0 ≤ h.2.2.1 ∧ n0 ≤ h.2.2.2 ∧ f.2.2.2.2.2.1 - c0 ≤ R.cells ∧ f.2.2.2.2.2.2 - n0 ≤ R.slots) (hH : q_hp D cid s0.heap.size h H) (hS : va_S (q_A s0) s.heap H locs) (hL : q_L L M.2.2.1 ls) (kk : ∀ (H1 : Heap) (locs1 : List Loc) (L1 : Array Slot), q_hp D cid s0.heap.size f.2.2.2 H1 → va_S (q_A s0) s.heap H1 locs1 → q_L L1 M.2.2.1 f.2.1 → W p l e R s m args below meth c H1 locs1 (f.2.2.2.2.2.1 - c0) (f.2.2.2.2.2.2 - n0) Q (F0 m f.1 L1 f.2.2.1)) : W p l e R s m args below meth c H locs (h.2.2.1 - c0) (h.2.2.2 - n0) Q (F0 m pc L st) := by
  obtain ⟨hx, hb, hr, hml, hown, hts, hlk, hnm, htab, hfr, hlo⟩ := hF
  simp only [q_stepI, q_nx] at hs
  split at hs
  · split at hs
    · rename_i hlen
      subst hlen
      cases hs
      exact lv_lxor hx hb hd (kk H locs L hH hS hL)
    · cases hs
  · cases hs
theorem q_n_lshl (hF : q_Fx p s m args meth c R M) (hG : q_G E D cid s0) (hY : q_Y s0 s) {len : Nat} (hd : decode M.2.1 pc = .ok (.lshl, len)) (hs : q_stepI E M (.lshl) len pc ls st h = some (.inl f)) (hbd : c0 ≤ h.2.2.1 ∧ n0 ≤ h.2.2.2 ∧ f.2.2.2.2.2.1 - c0 ≤ R.cells ∧ f.2.2.2.2.2.2 - n0 ≤ R.slots) (hH : q_hp D cid s0.heap.size h H) (hS : va_S (q_A s0) s.heap H locs) (hL : q_L L M.2.2.1 ls) (kk : ∀ (H1 : Heap) (locs1 : List Loc) (L1 : Array Slot), q_hp D cid s0.heap.size f.2.2.2 H1 → va_S (q_A s0) s.heap H1 locs1 → q_L L1 M.2.2.1 f.2.1 → W p l e R s m args below meth c H1 locs1 (f.2.2.2.2.2.1 - c0) (f.2.2.2.2.2.2 - n0) Q (F0 m f.1 L1 f.2.2.1)) : W p l e R s m args below meth c H locs (h.2.2.1 - c0) (h.2.2.2 - n0) Q (F0 m pc L st) := by
  obtain ⟨hx, hb, hr, hml, hown, hts, hlk, hnm, htab, hfr, hlo⟩ := hF
  simp only [q_stepI, q_nx] at hs
  split at hs
  · split at hs
    · rename_i hlen
      subst hlen
      cases hs
      exact lv_lshl hx hb hd rfl (kk H locs L hH hS hL)
    · cases hs
  · cases hs
theorem q_n_lushr (hF : q_Fx p s m args meth c R M) (hG : q_G E D cid s0) (hY : q_Y s0 s) {len : Nat} (hd : decode M.2.1 pc = .ok (.lushr, len)) (hs : q_stepI E M (.lushr) len pc ls st h = some (.inl f)) (hbd : c0 ≤ h.2.2.1 ∧ n0 ≤ h.2.2.2 ∧ f.2.2.2.2.2.1 - c0 ≤ R.cells ∧ f.2.2.2.2.2.2 - n0 ≤ R.slots) (hH : q_hp D cid s0.heap.size h H) (hS : va_S (q_A s0) s.heap H locs) (hL : q_L L M.2.2.1 ls) (kk : ∀ (H1 : Heap) (locs1 : List Loc) (L1 : Array Slot), q_hp D cid s0.heap.size f.2.2.2 H1 → va_S (q_A s0) s.heap H1 locs1 → q_L L1 M.2.2.1 f.2.1 → W p l e R s m args below meth c H1 locs1 (f.2.2.2.2.2.1 - c0) (f.2.2.2.2.2.2 - n0) Q (F0 m f.1 L1 f.2.2.1)) : W p l e R s m args below meth c H locs (h.2.2.1 - c0) (h.2.2.2 - n0) Q (F0 m pc L st) := by
  obtain ⟨hx, hb, hr, hml, hown, hts, hlk, hnm, htab, hfr, hlo⟩ := hF
  simp only [q_stepI, q_nx] at hs
  split at hs
  · split at hs
    · rename_i hlen
      subst hlen
      cases hs
      exact lv_lushr hx hb hd rfl (kk H locs L hH hS hL)
    · cases hs
  · cases hs
theorem q_n_i2l (hF : q_Fx p s m args meth c R M) (hG : q_G E D cid s0) (hY : q_Y s0 s) {len : Nat} (hd : decode M.2.1 pc = .ok (.i2l, len)) (hs : q_stepI E M (.i2l) len pc ls st h = some (.inl f)) (hbd : c0 ≤ h.2.2.1 ∧ n0 ≤ h.2.2.2 ∧ f.2.2.2.2.2.1 - c0 ≤ R.cells ∧ f.2.2.2.2.2.2 - n0 ≤ R.slots) (hH : q_hp D cid s0.heap.size h H) (hS : va_S (q_A s0) s.heap H locs) (hL : q_L L M.2.2.1 ls) (kk : ∀ (H1 : Heap) (locs1 : List Loc) (L1 : Array Slot), q_hp D cid s0.heap.size f.2.2.2 H1 → va_S (q_A s0) s.heap H1 locs1 → q_L L1 M.2.2.1 f.2.1 → W p l e R s m args below meth c H1 locs1 (f.2.2.2.2.2.1 - c0) (f.2.2.2.2.2.2 - n0) Q (F0 m f.1 L1 f.2.2.1)) : W p l e R s m args below meth c H locs (h.2.2.1 - c0) (h.2.2.2 - n0) Q (F0 m pc L st) := by
  obtain ⟨hx, hb, hr, hml, hown, hts, hlk, hnm, htab, hfr, hlo⟩ := hF
  simp only [q_stepI, q_nx] at hs
  split at hs
  · split at hs
    · rename_i hlen
      subst hlen
      cases hs
      exact lv_i2l hx hb hd rfl (kk H locs L hH hS hL)
    · cases hs
  · cases hs
theorem q_n_i2c (hF : q_Fx p s m args meth c R M) (hG : q_G E D cid s0) (hY : q_Y s0 s) {len : Nat} (hd : decode M.2.1 pc = .ok (.i2c, len)) (hs : q_stepI E M (.i2c) len pc ls st h = some (.inl f)) (hbd : c0 ≤ h.2.2.1 ∧ n0 ≤ h.2.2.2 ∧ f.2.2.2.2.2.1 - c0 ≤ R.cells ∧ f.2.2.2.2.2.2 - n0 ≤ R.slots) (hH : q_hp D cid s0.heap.size h H) (hS : va_S (q_A s0) s.heap H locs) (hL : q_L L M.2.2.1 ls) (kk : ∀ (H1 : Heap) (locs1 : List Loc) (L1 : Array Slot), q_hp D cid s0.heap.size f.2.2.2 H1 → va_S (q_A s0) s.heap H1 locs1 → q_L L1 M.2.2.1 f.2.1 → W p l e R s m args below meth c H1 locs1 (f.2.2.2.2.2.1 - c0) (f.2.2.2.2.2.2 - n0) Q (F0 m f.1 L1 f.2.2.1)) : W p l e R s m args below meth c H locs (h.2.2.1 - c0) (h.2.2.2 - n0) Q (F0 m pc L st) := by
  obtain ⟨hx, hb, hr, hml, hown, hts, hlk, hnm, htab, hfr, hlo⟩ := hF
  simp only [q_stepI, q_nx] at hs
  split at hs
  · split at hs
    · rename_i hlen
      subst hlen
      cases hs
      exact lv_i2c hx hb hd rfl (kk H locs L hH hS hL)
    · cases hs
  · cases hs
theorem q_n_i2b (hF : q_Fx p s m args meth c R M) (hG : q_G E D cid s0) (hY : q_Y s0 s) {len : Nat} (hd : decode M.2.1 pc = .ok (.i2b, len)) (hs : q_stepI E M (.i2b) len pc ls st h = some (.inl f)) (hbd : c0 ≤ h.2.2.1 ∧ n0 ≤ h.2.2.2 ∧ f.2.2.2.2.2.1 - c0 ≤ R.cells ∧ f.2.2.2.2.2.2 - n0 ≤ R.slots) (hH : q_hp D cid s0.heap.size h H) (hS : va_S (q_A s0) s.heap H locs) (hL : q_L L M.2.2.1 ls) (kk : ∀ (H1 : Heap) (locs1 : List Loc) (L1 : Array Slot), q_hp D cid s0.heap.size f.2.2.2 H1 → va_S (q_A s0) s.heap H1 locs1 → q_L L1 M.2.2.1 f.2.1 → W p l e R s m args below meth c H1 locs1 (f.2.2.2.2.2.1 - c0) (f.2.2.2.2.2.2 - n0) Q (F0 m f.1 L1 f.2.2.1)) : W p l e R s m args below meth c H locs (h.2.2.1 - c0) (h.2.2.2 - n0) Q (F0 m pc L st) := by
  obtain ⟨hx, hb, hr, hml, hown, hts, hlk, hnm, htab, hfr, hlo⟩ := hF
  simp only [q_stepI, q_nx] at hs
  split at hs
  · split at hs
    · rename_i hlen
      subst hlen
      cases hs
      exact lv_i2b hx hb hd rfl (kk H locs L hH hS hL)
    · cases hs
  · cases hs
theorem q_n_i2f (hF : q_Fx p s m args meth c R M) (hG : q_G E D cid s0) (hY : q_Y s0 s) {len : Nat} (hd : decode M.2.1 pc = .ok (.i2f, len)) (hs : q_stepI E M (.i2f) len pc ls st h = some (.inl f)) (hbd : c0 ≤ h.2.2.1 ∧ n0 ≤ h.2.2.2 ∧ f.2.2.2.2.2.1 - c0 ≤ R.cells ∧ f.2.2.2.2.2.2 - n0 ≤ R.slots) (hH : q_hp D cid s0.heap.size h H) (hS : va_S (q_A s0) s.heap H locs) (hL : q_L L M.2.2.1 ls) (kk : ∀ (H1 : Heap) (locs1 : List Loc) (L1 : Array Slot), q_hp D cid s0.heap.size f.2.2.2 H1 → va_S (q_A s0) s.heap H1 locs1 → q_L L1 M.2.2.1 f.2.1 → W p l e R s m args below meth c H1 locs1 (f.2.2.2.2.2.1 - c0) (f.2.2.2.2.2.2 - n0) Q (F0 m f.1 L1 f.2.2.1)) : W p l e R s m args below meth c H locs (h.2.2.1 - c0) (h.2.2.2 - n0) Q (F0 m pc L st) := by
  obtain ⟨hx, hb, hr, hml, hown, hts, hlk, hnm, htab, hfr, hlo⟩ := hF
  simp only [q_stepI, q_nx] at hs
  split at hs
  · split at hs
    · rename_i hlen
      subst hlen
      cases hs
      exact lv_i2f hx hb hd (kk H locs L hH hS hL)
    · cases hs
  · cases hs
theorem q_n_i2d (hF : q_Fx p s m args meth c R M) (hG : q_G E D cid s0) (hY : q_Y s0 s) {len : Nat} (hd : decode M.2.1 pc = .ok (.i2d, len)) (hs : q_stepI E M (.i2d) len pc ls st h = some (.inl f)) (hbd : c0 ≤ h.2.2.1 ∧ n0 ≤ h.2.2.2 ∧ f.2.2.2.2.2.1 - c0 ≤ R.cells ∧ f.2.2.2.2.2.2 - n0 ≤ R.slots) (hH : q_hp D cid s0.heap.size h H) (hS : va_S (q_A s0) s.heap H locs) (hL : q_L L M.2.2.1 ls) (kk : ∀ (H1 : Heap) (locs1 : List Loc) (L1 : Array Slot), q_hp D cid s0.heap.size f.2.2.2 H1 → va_S (q_A s0) s.heap H1 locs1 → q_L L1 M.2.2.1 f.2.1 → W p l e R s m args below meth c H1 locs1 (f.2.2.2.2.2.1 - c0) (f.2.2.2.2.2.2 - n0) Q (F0 m f.1 L1 f.2.2.1)) : W p l e R s m args below meth c H locs (h.2.2.1 - c0) (h.2.2.2 - n0) Q (F0 m pc L st) := by
  obtain ⟨hx, hb, hr, hml, hown, hts, hlk, hnm, htab, hfr, hlo⟩ := hF
  simp only [q_stepI, q_nx] at hs
  split at hs
  · split at hs
    · rename_i hlen
      subst hlen
      cases hs
      exact lv_i2d hx hb hd (kk H locs L hH hS hL)
    · cases hs
  · cases hs
theorem q_n_f2d (hF : q_Fx p s m args meth c R M) (hG : q_G E D cid s0) (hY : q_Y s0 s) {len : Nat} (hd : decode M.2.1 pc = .ok (.f2d, len)) (hs : q_stepI E M (.f2d) len pc ls st h = some (.inl f)) (hbd : c0 ≤ h.2.2.1 ∧ n0 ≤ h.2.2.2 ∧ f.2.2.2.2.2.1 - c0 ≤ R.cells ∧ f.2.2.2.2.2.2 - n0 ≤ R.slots) (hH : q_hp D cid s0.heap.size h H) (hS : va_S (q_A s0) s.heap H locs) (hL : q_L L M.2.2.1 ls) (kk : ∀ (H1 : Heap) (locs1 : List Loc) (L1 : Array Slot), q_hp D cid s0.heap.size f.2.2.2 H1 → va_S (q_A s0) s.heap H1 locs1 → q_L L1 M.2.2.1 f.2.1 → W p l e R s m args below meth c H1 locs1 (f.2.2.2.2.2.1 - c0) (f.2.2.2.2.2.2 - n0) Q (F0 m f.1 L1 f.2.2.1)) : W p l e R s m args below meth c H locs (h.2.2.1 - c0) (h.2.2.2 - n0) Q (F0 m pc L st) := by
  obtain ⟨hx, hb, hr, hml, hown, hts, hlk, hnm, htab, hfr, hlo⟩ := hF
  simp only [q_stepI, q_nx] at hs
  split at hs
  · split at hs
    · rename_i hlen
      obtain ⟨hlen, hne⟩ := hlen
      subst hlen
      cases hs
      exact lv_f2d hx hb hd hne (kk H locs L hH hS hL)
    · cases hs
  · cases hs
theorem q_n_fdiv (hF : q_Fx p s m args meth c R M) (hG : q_G E D cid s0) (hY : q_Y s0 s) {len : Nat} (hd : decode M.2.1 pc = .ok (.fdiv, len)) (hs : q_stepI E M (.fdiv) len pc ls st h = some (.inl f)) (hbd : c0 ≤ h.2.2.1 ∧ n0 ≤ h.2.2.2 ∧ f.2.2.2.2.2.1 - c0 ≤ R.cells ∧ f.2.2.2.2.2.2 - n0 ≤ R.slots) (hH : q_hp D cid s0.heap.size h H) (hS : va_S (q_A s0) s.heap H locs) (hL : q_L L M.2.2.1 ls) (kk : ∀ (H1 : Heap) (locs1 : List Loc) (L1 : Array Slot), q_hp D cid s0.heap.size f.2.2.2 H1 → va_S (q_A s0) s.heap H1 locs1 → q_L L1 M.2.2.1 f.2.1 → W p l e R s m args below meth c H1 locs1 (f.2.2.2.2.2.1 - c0) (f.2.2.2.2.2.2 - n0) Q (F0 m f.1 L1 f.2.2.1)) : W p l e R s m args below meth c H locs (h.2.2.1 - c0) (h.2.2.2 - n0) Q (F0 m pc L st) := by
  obtain ⟨hx, hb, hr, hml, hown, hts, hlk, hnm, htab, hfr, hlo⟩ := hF
  simp only [q_stepI, q_nx] at hs
  split at hs
  · split at hs
    · rename_i hlen
      obtain ⟨hlen, hne⟩ := hlen
      subst hlen
      cases hs
      exact lv_fdiv hx hb hd hne (kk H locs L hH hS hL)
    · cases hs
  · cases hs
theorem q_n_ddiv (hF : q_Fx p s m args meth c R M) (hG : q_G E D cid s0) (hY : q_Y s0 s) {len : Nat} (hd : decode M.2.1 pc = .ok (.ddiv, len)) (hs : q_stepI E M (.ddiv) len pc ls st h = some (.inl f)) (hbd : c0 ≤ h.2.2.1 ∧ n0 ≤ h.2.2.2 ∧ f.2.2.2.2.2.1 - c0 ≤ R.cells ∧ f.2.2.2.2.2.2 - n0 ≤ R.slots) (hH : q_hp D cid s0.heap.size h H) (hS : va_S (q_A s0) s.heap H locs) (hL : q_L L M.2.2.1 ls) (kk : ∀ (H1 : Heap) (locs1 : List Loc) (L1 : Array Slot), q_hp D cid s0.heap.size f.2.2.2 H1 → va_S (q_A s0) s.heap H1 locs1 → q_L L1 M.2.2.1 f.2.1 → W p l e R s m args below meth c H1 locs1 (f.2.2.2.2.2.1 - c0) (f.2.2.2.2.2.2 - n0) Q (F0 m f.1 L1 f.2.2.1)) : W p l e R s m args below meth c H locs (h.2.2.1 - c0) (h.2.2.2 - n0) Q (F0 m pc L st) := by
  obtain ⟨hx, hb, hr, hml, hown, hts, hlk, hnm, htab, hfr, hlo⟩ := hF
  simp only [q_stepI, q_nx] at hs
  split at hs
  · split at hs
    · rename_i hlen
      obtain ⟨hlen, hne⟩ := hlen
      subst hlen
      cases hs
      exact lv_ddiv hx hb hd hne (kk H locs L hH hS hL)
    · cases hs
  · cases hs
theorem q_n_fcmp {op : CmpOp} (hF : q_Fx p s m args meth c R M) (hG : q_G E D cid s0) (hY : q_Y s0 s) {len : Nat} (hd : decode M.2.1 pc = .ok (.fcmp op, len)) (hs : q_stepI E M (.fcmp op) len pc ls st h = some (.inl f)) (hbd : c0 ≤ h.2.2.1 ∧ n0 ≤ h.2.2.2 ∧ f.2.2.2.2.2.1 - c0 ≤ R.cells ∧ f.2.2.2.2.2.2 - n0 ≤ R.slots) (hH : q_hp D cid s0.heap.size h H) (hS : va_S (q_A s0) s.heap H locs) (hL : q_L L M.2.2.1 ls) (kk : ∀ (H1 : Heap) (locs1 : List Loc) (L1 : Array Slot), q_hp D cid s0.heap.size f.2.2.2 H1 → va_S (q_A s0) s.heap H1 locs1 → q_L L1 M.2.2.1 f.2.1 → W p l e R s m args below meth c H1 locs1 (f.2.2.2.2.2.1 - c0) (f.2.2.2.2.2.2 - n0) Q (F0 m f.1 L1 f.2.2.1)) : W p l e R s m args below meth c H locs (h.2.2.1 - c0) (h.2.2.2 - n0) Q (F0 m pc L st) := by
  obtain ⟨hx, hb, hr, hml, hown, hts, hlk, hnm, htab, hfr, hlo⟩ := hF
  simp only [q_stepI, q_nx] at hs
  split at hs
  · split at hs
    · rename_i hlen
      subst hlen
      cases hs
      exact lv_fcmp hx hb hd (kk H locs L hH hS hL)
    · cases hs
  · cases hs
theorem q_n_dcmp {op : CmpOp} (hF : q_Fx p s m args meth c R M) (hG : q_G E D cid s0) (hY : q_Y s0 s) {len : Nat} (hd : decode M.2.1 pc = .ok (.dcmp op, len)) (hs : q_stepI E M (.dcmp op) len pc ls st h = some (.inl f)) (hbd : c0 ≤ h.2.2.1 ∧ n0 ≤ h.2.2.2 ∧ f.2.2.2.2.2.1 - c0 ≤ R.cells ∧ f.2.2.2.2.2.2 - n0 ≤ R.slots) (hH : q_hp D cid s0.heap.size h H) (hS : va_S (q_A s0) s.heap H locs) (hL : q_L L M.2.2.1 ls) (kk : ∀ (H1 : Heap) (locs1 : List Loc) (L1 : Array Slot), q_hp D cid s0.heap.size f.2.2.2 H1 → va_S (q_A s0) s.heap H1 locs1 → q_L L1 M.2.2.1 f.2.1 → W p l e R s m args below meth c H1 locs1 (f.2.2.2.2.2.1 - c0) (f.2.2.2.2.2.2 - n0) Q (F0 m f.1 L1 f.2.2.1)) : W p l e R s m args below meth c H locs (h.2.2.1 - c0) (h.2.2.2 - n0) Q (F0 m pc L st) := by
  obtain ⟨hx, hb, hr, hml, hown, hts, hlk, hnm, htab, hfr, hlo⟩ := hF
  simp only [q_stepI, q_nx] at hs
  split at hs
  · split at hs
    · rename_i hlen
      subst hlen
      cases hs
      exact lv_dcmp hx hb hd (kk H locs L hH hS hL)
    · cases hs
  · cases hs
theorem q_n_fconst {n : Fin 3} (hF : q_Fx p s m args meth c R M) (hG : q_G E D cid s0) (hY : q_Y s0 s) {len : Nat} (hd : decode M.2.1 pc = .ok (.fconst n, len)) (hs : q_stepI E M (.fconst n) len pc ls st h = some (.inl f)) (hbd : c0 ≤ h.2.2.1 ∧ n0 ≤ h.2.2.2 ∧ f.2.2.2.2.2.1 - c0 ≤ R.cells ∧ f.2.2.2.2.2.2 - n0 ≤ R.slots) (hH : q_hp D cid s0.heap.size h H) (hS : va_S (q_A s0) s.heap H locs) (hL : q_L L M.2.2.1 ls) (kk : ∀ (H1 : Heap) (locs1 : List Loc) (L1 : Array Slot), q_hp D cid s0.heap.size f.2.2.2 H1 → va_S (q_A s0) s.heap H1 locs1 → q_L L1 M.2.2.1 f.2.1 → W p l e R s m args below meth c H1 locs1 (f.2.2.2.2.2.1 - c0) (f.2.2.2.2.2.2 - n0) Q (F0 m f.1 L1 f.2.2.1)) : W p l e R s m args below meth c H locs (h.2.2.1 - c0) (h.2.2.2 - n0) Q (F0 m pc L st) := by
  obtain ⟨hx, hb, hr, hml, hown, hts, hlk, hnm, htab, hfr, hlo⟩ := hF
  simp only [q_stepI, q_nx] at hs
  split at hs
  · rename_i hlen
    obtain ⟨hlen, hz⟩ := hlen
    subst hlen
    have hn : n = 0 := Fin.ext hz
    subst hn
    cases hs
    exact lv_fconst0 hx hb hd (kk H locs L hH hS hL)
  · cases hs
theorem q_n_dconst {n : Fin 2} (hF : q_Fx p s m args meth c R M) (hG : q_G E D cid s0) (hY : q_Y s0 s) {len : Nat} (hd : decode M.2.1 pc = .ok (.dconst n, len)) (hs : q_stepI E M (.dconst n) len pc ls st h = some (.inl f)) (hbd : c0 ≤ h.2.2.1 ∧ n0 ≤ h.2.2.2 ∧ f.2.2.2.2.2.1 - c0 ≤ R.cells ∧ f.2.2.2.2.2.2 - n0 ≤ R.slots) (hH : q_hp D cid s0.heap.size h H) (hS : va_S (q_A s0) s.heap H locs) (hL : q_L L M.2.2.1 ls) (kk : ∀ (H1 : Heap) (locs1 : List Loc) (L1 : Array Slot), q_hp D cid s0.heap.size f.2.2.2 H1 → va_S (q_A s0) s.heap H1 locs1 → q_L L1 M.2.2.1 f.2.1 → W p l e R s m args below meth c H1 locs1 (f.2.2.2.2.2.1 - c0) (f.2.2.2.2.2.2 - n0) Q (F0 m f.1 L1 f.2.2.1)) : W p l e R s m args below meth c H locs (h.2.2.1 - c0) (h.2.2.2 - n0) Q (F0 m pc L st) := by
  obtain ⟨hx, hb, hr, hml, hown, hts, hlk, hnm, htab, hfr, hlo⟩ := hF
  simp only [q_stepI, q_nx] at hs
  split at hs
  · rename_i hlen
    obtain ⟨hlen, hz⟩ := hlen
    subst hlen
    have hn : n = 0 := Fin.ext hz
    subst hn
    cases hs
    exact lv_dconst0 hx hb hd (kk H locs L hH hS hL)
  · cases hs
theorem q_n_ldc {ix : Nat} (hF : q_Fx p s m args meth c R M) (hG : q_G E D cid s0) (hY : q_Y s0 s) {len : Nat} (hd : decode M.2.1 pc = .ok (.ldc ix, len)) (hs : q_stepI E M (.ldc ix) len pc ls st h = some (.inl f)) (hbd : c0 ≤ h.2.2.1 ∧ n0 ≤ h.2.2.2 ∧ f.2.2.2.2.2.1 - c0 ≤ R.cells ∧ f.2.2.2.2.2.2 - n0 ≤ R.slots) (hH : q_hp D cid s0.heap.size h H) (hS : va_S (q_A s0) s.heap H locs) (hL : q_L L M.2.2.1 ls) (kk : ∀ (H1 : Heap) (locs1 : List Loc) (L1 : Array Slot), q_hp D cid s0.heap.size f.2.2.2 H1 → va_S (q_A s0) s.heap H1 locs1 → q_L L1 M.2.2.1 f.2.1 → W p l e R s m args below meth c H1 locs1 (f.2.2.2.2.2.1 - c0) (f.2.2.2.2.2.2 - n0) Q (F0 m f.1 L1 f.2.2.1)) : W p l e R s m args below meth c H locs (h.2.2.1 - c0) (h.2.2.2 - n0) Q (F0 m pc L st) := by
  obtain ⟨hx, hb, hr, hml, hown, hts, hlk, hnm, htab, hfr, hlo⟩ := hF
  simp only [q_stepI, q_nx] at hs
  split at hs
  · rename_i i pos hq
    split at hs
    · rename_i v hv
      split at hs
      · rename_i hlen
        obtain ⟨hlen, ho⟩ := hlen
        subst hlen
        cases hs
        obtain ⟨w0, w1, w2, w3⟩ := q_lst_ok _ ho _ (q_lk_mem hq)
        dsimp only at w1 w2 w3
        obtain ⟨adK, adV, h1, h2⟩ := q_Sat hG hY
        obtain ⟨g1, g2, g3⟩ := h1 i w1
        rw [g1] at hv
        cases hv
        rw [w0] at hown
        subst w2
        exact va_ldcS hx hb hown g3 hd (kk H locs L hH hS hL)
      · cases hs
    · cases hs
  · split at hs
    · rename_i x pos hq
      split at hs
      · rename_i hlen
        obtain ⟨hlen, ho⟩ := hlen
        subst hlen
        cases hs
        exact lv_ldc hx hb hown (q_word hts (q_ldi_ok _ ho _ (q_lk_mem hq)) rfl) hd (kk H locs L hH hS hL)
      · cases hs
    · cases hs
theorem q_n_ldc_w {ix : Nat} (hF : q_Fx p s m args meth c R M) (hG : q_G E D cid s0) (hY : q_Y s0 s) {len : Nat} (hd : decode M.2.1 pc = .ok (.ldc_w ix, len)) (hs : q_stepI E M (.ldc_w ix) len pc ls st h = some (.inl f)) (hbd : c0 ≤ h.2.2.1 ∧ n0 ≤ h.2.2.2 ∧ f.2.2.2.2.2.1 - c0 ≤ R.cells ∧ f.2.2.2.2.2.2 - n0 ≤ R.slots) (hH : q_hp D cid s0.heap.size h H) (hS : va_S (q_A s0) s.heap H locs) (hL : q_L L M.2.2.1 ls) (kk : ∀ (H1 : Heap) (locs1 : List Loc) (L1 : Array Slot), q_hp D cid s0.heap.size f.2.2.2 H1 → va_S (q_A s0) s.heap H1 locs1 → q_L L1 M.2.2.1 f.2.1 → W p l e R s m args below meth c H1 locs1 (f.2.2.2.2.2.1 - c0) (f.2.2.2.2.2.2 - n0) Q (F0 m f.1 L1 f.2.2.1)) : W p l e R s m args below meth c H locs (h.2.2.1 - c0) (h.2.2.2 - n0) Q (F0 m pc L st) := by
  obtain ⟨hx, hb, hr, hml, hown, hts, hlk, hnm, htab, hfr, hlo⟩ := hF
  simp only [q_stepI, q_nx] at hs
  split at hs
  · rename_i i pos hq
    split at hs
    · rename_i v hv
      split at hs
      · rename_i hlen
        obtain ⟨hlen, ho⟩ := hlen
        subst hlen
        cases hs
        obtain ⟨w0, w1, w2, w3⟩ := q_lst_ok _ ho _ (q_lk_mem hq)
        dsimp only at w1 w2 w3
        obtain ⟨adK, adV, h1, h2⟩ := q_Sat hG hY
        obtain ⟨g1, g2, g3⟩ := h1 i w1
        rw [g1] at hv
        cases hv
        rw [w0] at hown
        subst w2
        exact va_ldcSW hx hb hown g3 hd (kk H locs L hH hS hL)
      · cases hs
    · cases hs
  · cases hs
theorem q_n_aconst_null (hF : q_Fx p s m args meth c R M) (hG : q_G E D cid s0) (hY : q_Y s0 s) {len : Nat} (hd : decode M.2.1 pc = .ok (.aconst_null, len)) (hs : q_stepI E M (.aconst_null) len pc ls st h = some (.inl f)) (hbd : c0 ≤ h.2.2.1 ∧ n0 ≤ h.2.2.2 ∧ f.2.2.2.2.2.1 - c0 ≤ R.cells ∧ f.2.2.2.2.2.2 - n0 ≤ R.slots) (hH : q_hp D cid s0.heap.size h H) (hS : va_S (q_A s0) s.heap H locs) (hL : q_L L M.2.2.1 ls) (kk : ∀ (H1 : Heap) (locs1 : List Loc) (L1 : Array Slot), q_hp D cid s0.heap.size f.2.2.2 H1 → va_S (q_A s0) s.heap H1 locs1 → q_L L1 M.2.2.1 f.2.1 → W p l e R s m args below meth c H1 locs1 (f.2.2.2.2.2.1 - c0) (f.2.2.2.2.2.2 - n0) Q (F0 m f.1 L1 f.2.2.1)) : W p l e R s m args below meth c H locs (h.2.2.1 - c0) (h.2.2.2 - n0) Q (F0 m pc L st) := by
  obtain ⟨hx, hb, hr, hml, hown, hts, hlk, hnm, htab, hfr, hlo⟩ := hF
  simp only [q_stepI, q_nx] at hs
  split at hs
  · rename_i hlen
    subst hlen
    cases hs
    exact lv_null hx hb hd (kk H locs L hH hS hL)
  · cases hs
theorem q_n_iushr (hF : q_Fx p s m args meth c R M) (hG : q_G E D cid s0) (hY : q_Y s0 s) {len : Nat} (hd : decode M.2.1 pc = .ok (.iushr, len)) (hs : q_stepI E M (.iushr) len pc ls st h = some (.inl f)) (hbd : c0 ≤ h.2.2.1 ∧ n0 ≤ h.2.2.2 ∧ f.2.2.2.2.2.1 - c0 ≤ R.cells ∧ f.2.2.2.2.2.2 - n0 ≤ R.slots) (hH : q_hp D cid s0.heap.size h H) (hS : va_S (q_A s0) s.heap H locs) (hL : q_L L M.2.2.1 ls) (kk : ∀ (H1 : Heap) (locs1 : List Loc) (L1 : Array Slot), q_hp D cid s0.heap.size f.2.2.2 H1 → va_S (q_A s0) s.heap H1 locs1 → q_L L1 M.2.2.1 f.2.1 → W p l e R s m args below meth c H1 locs1 (f.2.2.2.2.2.1 - c0) (f.2.2.2.2.2.2 - n0) Q (F0 m f.1 L1 f.2.2.1)) : W p l e R s m args below meth c H locs (h.2.2.1 - c0) (h.2.2.2 - n0) Q (F0 m pc L st) := by
  obtain ⟨hx, hb, hr, hml, hown, hts, hlk, hnm, htab, hfr, hlo⟩ := hF
  simp only [q_stepI, q_nx] at hs
  split at hs
  · split at hs
    · rename_i hlen
      subst hlen
      cases hs
      exact lv_iushr hx hb hd rfl (kk H locs L hH hS hL)
    · cases hs
  · cases hs
theorem q_n_ineg (hF : q_Fx p s m args meth c R M) (hG : q_G E D cid s0) (hY : q_Y s0 s) {len : Nat} (hd : decode M.2.1 pc = .ok (.ineg, len)) (hs : q_stepI E M (.ineg) len pc ls st h = some (.inl f)) (hbd : c0 ≤ h.2.2.1 ∧ n0 ≤ h.2.2.2 ∧ f.2.2.2.2.2.1 - c0 ≤ R.cells ∧ f.2.2.2.2.2.2 - n0 ≤ R.slots) (hH : q_hp D cid s0.heap.size h H) (hS : va_S (q_A s0) s.heap H locs) (hL : q_L L M.2.2.1 ls) (kk : ∀ (H1 : Heap) (locs1 : List Loc) (L1 : Array Slot), q_hp D cid s0.heap.size f.2.2.2 H1 → va_S (q_A s0) s.heap H1 locs1 → q_L L1 M.2.2.1 f.2.1 → W p l e R s m args below meth c H1 locs1 (f.2.2.2.2.2.1 - c0) (f.2.2.2.2.2.2 - n0) Q (F0 m f.1 L1 f.2.2.1)) : W p l e R s m args below meth c H locs (h.2.2.1 - c0) (h.2.2.2 - n0) Q (F0 m pc L st) := by
  obtain ⟨hx, hb, hr, hml, hown, hts, hlk, hnm, htab, hfr, hlo⟩ := hF
  simp only [q_stepI, q_nx] at hs
  split at hs
  · split at hs
    · rename_i hlen
      subst hlen
      cases hs
      exact lv_ineg hx hb hd (kk H locs L hH hS hL)
    · cases hs
  · cases hs
theorem q_n_lmul (hF : q_Fx p s m args meth c R M) (hG : q_G E D cid s0) (hY : q_Y s0 s) {len : Nat} (hd : decode M.2.1 pc = .ok (.lmul, len)) (hs : q_stepI E M (.lmul) len pc ls st h = some (.inl f)) (hbd : c0 ≤ h.2.2.1 ∧ n0 ≤ h.2.2.2 ∧ f.2.2.2.2.2.1 - c0 ≤ R.cells ∧ f.2.2.2.2.2.2 - n0 ≤ R.slots) (hH : q_hp D cid s0.heap.size h H) (hS : va_S (q_A s0) s.heap H locs) (hL : q_L L M.2.2.1 ls) (kk : ∀ (H1 : Heap) (locs1 : List Loc) (L1 : Array Slot), q_hp D cid s0.heap.size f.2.2.2 H1 → va_S (q_A s0) s.heap H1 locs1 → q_L L1 M.2.2.1 f.2.1 → W p l e R s m args below meth c H1 locs1 (f.2.2.2.2.2.1 - c0) (f.2.2.2.2.2.2 - n0) Q (F0 m f.1 L1 f.2.2.1)) : W p l e R s m args below meth c H locs (h.2.2.1 - c0) (h.2.2.2 - n0) Q (F0 m pc L st) := by
  obtain ⟨hx, hb, hr, hml, hown, hts, hlk, hnm, htab, hfr, hlo⟩ := hF
  simp only [q_stepI, q_nx] at hs
  split at hs
  · split at hs
    · rename_i hlen
      subst hlen
      cases hs
      exact lv_lmul hx hb hd (kk H locs L hH hS hL)
    · cases hs
  · cases hs
theorem q_n_ladd (hF : q_Fx p s m args meth c R M) (hG : q_G E D cid s0) (hY : q_Y s0 s) {len : Nat} (hd : decode M.2.1 pc = .ok (.ladd, len)) (hs : q_stepI E M (.ladd) len pc ls st h = some (.inl f)) (hbd : c0 ≤ h.2.2.1 ∧ n0 ≤ h.2.2.2 ∧ f.2.2.2.2.2.1 - c0 ≤ R.cells ∧ f.2.2.2.2.2.2 - n0 ≤ R.slots) (hH : q_hp D cid s0.heap.size h H) (hS : va_S (q_A s0) s.heap H locs) (hL : q_L L M.2.2.1 ls) (kk : ∀ (H1 : Heap) (locs1 : List Loc) (L1 : Array Slot), q_hp D cid s0.heap.size f.2.2.2 H1 → va_S (q_A s0) s.heap H1 locs1 → q_L L1 M.2.2.1 f.2.1 → W p l e R s m args below meth c H1 locs1 (f.2.2.2.2.2.1 - c0) (f.2.2.2.2.2.2 - n0) Q (F0 m f.1 L1 f.2.2.1)) : W p l e R s m args below meth c H locs (h.2.2.1 - c0) (h.2.2.2 - n0) Q (F0 m pc L st) := by
  obtain ⟨hx, hb, hr, hml, hown, hts, hlk, hnm, htab, hfr, hlo⟩ := hF
  simp only [q_stepI, q_nx] at hs
  split at hs
  · split at hs
    · rename_i hlen
      subst hlen
      cases hs
      exact lv_ladd hx hb hd (kk H locs L hH hS hL)
    · cases hs
  · cases hs
theorem q_n_lcmp (hF : q_Fx p s m args meth c R M) (hG : q_G E D cid s0) (hY : q_Y s0 s) {len : Nat} (hd : decode M.2.1 pc = .ok (.lcmp, len)) (hs : q_stepI E M (.lcmp) len pc ls st h = some (.inl f)) (hbd : c0 ≤ h.2.2.1 ∧ n0 ≤ h.2.2.2 ∧ f.2.2.2.2.2.1 - c0 ≤ R.cells ∧ f.2.2.2.2.2.2 - n0 ≤ R.slots) (hH : q_hp D cid s0.heap.size h H) (hS : va_S (q_A s0) s.heap H locs) (hL : q_L L M.2.2.1 ls) (kk : ∀ (H1 : Heap) (locs1 : List Loc) (L1 : Array Slot), q_hp D cid s0.heap.size f.2.2.2 H1 → va_S (q_A s0) s.heap H1 locs1 → q_L L1 M.2.2.1 f.2.1 → W p l e R s m args below meth c H1 locs1 (f.2.2.2.2.2.1 - c0) (f.2.2.2.2.2.2 - n0) Q (F0 m f.1 L1 f.2.2.1)) : W p l e R s m args below meth c H locs (h.2.2.1 - c0) (h.2.2.2 - n0) Q (F0 m pc L st) := by
  obtain ⟨hx, hb, hr, hml, hown, hts, hlk, hnm, htab, hfr, hlo⟩ := hF
  simp only [q_stepI, q_nx] at hs
  split at hs
  · split at hs
    · rename_i hlen
      subst hlen
      cases hs
      exact W.lcmp hx hb hd (kk H locs L hH hS hL)
    · cases hs
  · cases hs
theorem q_n_idiv (hF : q_Fx p s m args meth c R M) (hG : q_G E D cid s0) (hY : q_Y s0 s) {len : Nat} (hd : decode M.2.1 pc = .ok (.idiv, len)) (hs : q_stepI E M (.idiv) len pc ls st h = some (.inl f)) (hbd : c0 ≤ h.2.2.1 ∧ n0 ≤ h.2.2.2 ∧ f.2.2.2.2.2.1 - c0 ≤ R.cells ∧ f.2.2.2.2.2.2 - n0 ≤ R.slots) (hH : q_hp D cid s0.heap.size h H) (hS : va_S (q_A s0) s.heap H locs) (hL : q_L L M.2.2.1 ls) (kk : ∀ (H1 : Heap) (locs1 : List Loc) (L1 : Array Slot), q_hp D cid s0.heap.size f.2.2.2 H1 → va_S (q_A s0) s.heap H1 locs1 → q_L L1 M.2.2.1 f.2.1 → W p l e R s m args below meth c H1 locs1 (f.2.2.2.2.2.1 - c0) (f.2.2.2.2.2.2 - n0) Q (F0 m f.1 L1 f.2.2.1)) : W p l e R s m args below meth c H locs (h.2.2.1 - c0) (h.2.2.2 - n0) Q (F0 m pc L st) := by
  obtain ⟨hx, hb, hr, hml, hown, hts, hlk, hnm, htab, hfr, hlo⟩ := hF
  simp only [q_stepI, q_nx] at hs
  split at hs
  · split at hs
    · rename_i hlen
      obtain ⟨hlen, hne⟩ := hlen
      subst hlen
      cases hs
      exact lv_idiv hx hb hd hne (kk H locs L hH hS hL)
    · cases hs
  · cases hs
theorem q_n_irem (hF : q_Fx p s m args meth c R M) (hG : q_G E D cid s0) (hY : q_Y s0 s) {len : Nat} (hd : decode M.2.1 pc = .ok (.irem, len)) (hs : q_stepI E M (.irem) len pc ls st h = some (.inl f)) (hbd : c0 ≤ h.2.2.1 ∧ n0 ≤ h.2.2.2 ∧ f.2.2.2.2.2.1 - c0 ≤ R.cells ∧ f.2.2.2.2.2.2 - n0 ≤ R.slots) (hH : q_hp D cid s0.heap.size h H) (hS : va_S (q_A s0) s.heap H locs) (hL : q_L L M.2.2.1 ls) (kk : ∀ (H1 : Heap) (locs1 : List Loc) (L1 : Array Slot), q_hp D cid s0.heap.size f.2.2.2 H1 → va_S (q_A s0) s.heap H1 locs1 → q_L L1 M.2.2.1 f.2.1 → W p l e R s m args below meth c H1 locs1 (f.2.2.2.2.2.1 - c0) (f.2.2.2.2.2.2 - n0) Q (F0 m f.1 L1 f.2.2.1)) : W p l e R s m args below meth c H locs (h.2.2.1 - c0) (h.2.2.2 - n0) Q (F0 m pc L st) := by
  obtain ⟨hx, hb, hr, hml, hown, hts, hlk, hnm, htab, hfr, hlo⟩ := hF
  simp only [q_stepI, q_nx] at hs
  split at hs
  · split at hs
    · rename_i hlen
      obtain ⟨hlen, hne⟩ := hlen
      subst hlen
      cases hs
      exact lv_irem hx hb hd hne (kk H locs L hH hS hL)
    · cases hs
  · cases hs
theorem q_n_dup (hF : q_Fx p s m args meth c R M) (hG : q_G E D cid s0) (hY : q_Y s0 s) {len : Nat} (hd : decode M.2.1 pc = .ok (.dup, len)) (hs : q_stepI E M (.dup) len pc ls st h = some (.inl f)) (hbd : c0 ≤ h.2.2.1 ∧ n0 ≤ h.2.2.2 ∧ f.2.2.2.2.2.1 - c0 ≤ R.cells ∧ f.2.2.2.2.2.2 - n0 ≤ R.slots) (hH : q_hp D cid s0.heap.size h H) (hS : va_S (q_A s0) s.heap H locs) (hL : q_L L M.2.2.1 ls) (kk : ∀ (H1 : Heap) (locs1 : List Loc) (L1 : Array Slot), q_hp D cid s0.heap.size f.2.2.2 H1 → va_S (q_A s0) s.heap H1 locs1 → q_L L1 M.2.2.1 f.2.1 → W p l e R s m args below meth c H1 locs1 (f.2.2.2.2.2.1 - c0) (f.2.2.2.2.2.2 - n0) Q (F0 m f.1 L1 f.2.2.1)) : W p l e R s m args below meth c H locs (h.2.2.1 - c0) (h.2.2.2 - n0) Q (F0 m pc L st) := by
  obtain ⟨hx, hb, hr, hml, hown, hts, hlk, hnm, htab, hfr, hlo⟩ := hF
  simp only [q_stepI, q_nx] at hs
  split at hs
  · split at hs
    · rename_i hlen
      obtain ⟨hlen, hc⟩ := hlen
      subst hlen
      cases hs
      exact lv_dup hx hb hd hc (kk H locs L hH hS hL)
    · cases hs
  · cases hs
theorem q_n_dup2 (hF : q_Fx p s m args meth c R M) (hG : q_G E D cid s0) (hY : q_Y s0 s) {len : Nat} (hd : decode M.2.1 pc = .ok (.dup2, len)) (hs : q_stepI E M (.dup2) len pc ls st h = some (.inl f)) (hbd : c0 ≤ h.2.2.1 ∧ n0 ≤ h.2.2.2 ∧ f.2.2.2.2.2.1 - c0 ≤ R.cells ∧ f.2.2.2.2.2.2 - n0 ≤ R.slots) (hH : q_hp D cid s0.heap.size h H) (hS : va_S (q_A s0) s.heap H locs) (hL : q_L L M.2.2.1 ls) (kk : ∀ (H1 : Heap) (locs1 : List Loc) (L1 : Array Slot), q_hp D cid s0.heap.size f.2.2.2 H1 → va_S (q_A s0) s.heap H1 locs1 → q_L L1 M.2.2.1 f.2.1 → W p l e R s m args below meth c H1 locs1 (f.2.2.2.2.2.1 - c0) (f.2.2.2.2.2.2 - n0) Q (F0 m f.1 L1 f.2.2.1)) : W p l e R s m args below meth c H locs (h.2.2.1 - c0) (h.2.2.2 - n0) Q (F0 m pc L st) := by
  obtain ⟨hx, hb, hr, hml, hown, hts, hlk, hnm, htab, hfr, hlo⟩ := hF
  simp only [q_stepI, q_nx] at hs
  split at hs
  · split at hs
    · rename_i hlen
      obtain ⟨hlen, hc⟩ := hlen
      subst hlen
      cases hs
      exact lv_dup2_11 hx hb hd hc.1 hc.2 (kk H locs L hH hS hL)
    · cases hs
  · cases hs
theorem q_n_pop (hF : q_Fx p s m args meth c R M) (hG : q_G E D cid s0) (hY : q_Y s0 s) {len : Nat} (hd : decode M.2.1 pc = .ok (.pop, len)) (hs : q_stepI E M (.pop) len pc ls st h = some (.inl f)) (hbd : c0 ≤ h.2.2.1 ∧ n0 ≤ h.2.2.2 ∧ f.2.2.2.2.2.1 - c0 ≤ R.cells ∧ f.2.2.2.2.2.2 - n0 ≤ R.slots) (hH : q_hp D cid s0.heap.size h H) (hS : va_S (q_A s0) s.heap H locs) (hL : q_L L M.2.2.1 ls) (kk : ∀ (H1 : Heap) (locs1 : List Loc) (L1 : Array Slot), q_hp D cid s0.heap.size f.2.2.2 H1 → va_S (q_A s0) s.heap H1 locs1 → q_L L1 M.2.2.1 f.2.1 → W p l e R s m args below meth c H1 locs1 (f.2.2.2.2.2.1 - c0) (f.2.2.2.2.2.2 - n0) Q (F0 m f.1 L1 f.2.2.1)) : W p l e R s m args below meth c H locs (h.2.2.1 - c0) (h.2.2.2 - n0) Q (F0 m pc L st) := by
  obtain ⟨hx, hb, hr, hml, hown, hts, hlk, hnm, htab, hfr, hlo⟩ := hF
  simp only [q_stepI, q_nx] at hs
  split at hs
  · split at hs
    · rename_i hlen
      obtain ⟨hlen, hc⟩ := hlen
      subst hlen
      cases hs
      exact lv_pop hx hb hd hc (kk H locs L hH hS hL)
    · cases hs
  · cases hs
theorem q_n_fload {k : Nat} (hF : q_Fx p s m args meth c R M) (hG : q_G E D cid s0) (hY : q_Y s0 s) {len : Nat} (hd : decode M.2.1 pc = .ok (.fload k, len)) (hs : q_stepI E M (.fload k) len pc ls st h = some (.inl f)) (hbd : c0 ≤ h.2.2.1 ∧ n0 ≤ h.2.2.2 ∧ f.2.2.2.2.2.1 - c0 ≤ R.cells ∧ f.2.2.2.2.2.2 - n0 ≤ R.slots) (hH : q_hp D cid s0.heap.size h H) (hS : va_S (q_A s0) s.heap H locs) (hL : q_L L M.2.2.1 ls) (kk : ∀ (H1 : Heap) (locs1 : List Loc) (L1 : Array Slot), q_hp D cid s0.heap.size f.2.2.2 H1 → va_S (q_A s0) s.heap H1 locs1 → q_L L1 M.2.2.1 f.2.1 → W p l e R s m args below meth c H1 locs1 (f.2.2.2.2.2.1 - c0) (f.2.2.2.2.2.2 - n0) Q (F0 m f.1 L1 f.2.2.1)) : W p l e R s m args below meth c H locs (h.2.2.1 - c0) (h.2.2.2 - n0) Q (F0 m pc L st) := by
  obtain ⟨hx, hb, hr, hml, hown, hts, hlk, hnm, htab, hfr, hlo⟩ := hF
  simp only [q_stepI, q_nx] at hs
  split at hs
  · rename_i x hk
    split at hs
    · rename_i hlen
      subst hlen
      cases hs
      exact lv_fload hx hb hd (hL.at hk (fun z => by cases z)) (kk H locs L hH hS hL)
    · cases hs
  · cases hs
theorem q_n_dload {k : Nat} (hF : q_Fx p s m args meth c R M) (hG : q_G E D cid s0) (hY : q_Y s0 s) {len : Nat} (hd : decode M.2.1 pc = .ok (.dload k, len)) (hs : q_stepI E M (.dload k) len pc ls st h = some (.inl f)) (hbd : c0 ≤ h.2.2.1 ∧ n0 ≤ h.2.2.2 ∧ f.2.2.2.2.2.1 - c0 ≤ R.cells ∧ f.2.2.2.2.2.2 - n0 ≤ R.slots) (hH : q_hp D cid s0.heap.size h H) (hS : va_S (q_A s0) s.heap H locs) (hL : q_L L M.2.2.1 ls) (kk : ∀ (H1 : Heap) (locs1 : List Loc) (L1 : Array Slot), q_hp D cid s0.heap.size f.2.2.2 H1 → va_S (q_A s0) s.heap H1 locs1 → q_L L1 M.2.2.1 f.2.1 → W p l e R s m args below meth c H1 locs1 (f.2.2.2.2.2.1 - c0) (f.2.2.2.2.2.2 - n0) Q (F0 m f.1 L1 f.2.2.1)) : W p l e R s m args below meth c H locs (h.2.2.1 - c0) (h.2.2.2 - n0) Q (F0 m pc L st) := by
  obtain ⟨hx, hb, hr, hml, hown, hts, hlk, hnm, htab, hfr, hlo⟩ := hF
  simp only [q_stepI, q_nx] at hs
  split at hs
  · rename_i x hk
    split at hs
    · rename_i hlen
      subst hlen
      cases hs
      exact lv_dload hx hb hd (hL.at hk (fun z => by cases z)) (kk H locs L hH hS hL)
    · cases hs
  · cases hs
theorem q_n_iload_n {k : Fin 4} (hF : q_Fx p s m args meth c R M) (hG : q_G E D cid s0) (hY : q_Y s0 s) {len : Nat} (hd : decode M.2.1 pc = .ok (.iload_n k, len)) (hs : q_stepI E M (.iload_n k) len pc ls st h = some (.inl f)) (hbd : c0 ≤ h.2.2.1 ∧ n0 ≤ h.2.2.2 ∧ f.2.2.2.2.2.1 - c0 ≤ R.cells ∧ f.2.2.2.2.2.2 - n0 ≤ R.slots) (hH : q_hp D cid s0.heap.size h H) (hS : va_S (q_A s0) s.heap H locs) (hL : q_L L M.2.2.1 ls) (kk : ∀ (H1 : Heap) (locs1 : List Loc) (L1 : Array Slot), q_hp D cid s0.heap.size f.2.2.2 H1 → va_S (q_A s0) s.heap H1 locs1 → q_L L1 M.2.2.1 f.2.1 → W p l e R s m args below meth c H1 locs1 (f.2.2.2.2.2.1 - c0) (f.2.2.2.2.2.2 - n0) Q (F0 m f.1 L1 f.2.2.1)) : W p l e R s m args below meth c H locs (h.2.2.1 - c0) (h.2.2.2 - n0) Q (F0 m pc L st) := by
  obtain ⟨hx, hb, hr, hml, hown, hts, hlk, hnm, htab, hfr, hlo⟩ := hF
  simp only [q_stepI, q_nx] at hs
  split at hs
  · rename_i x hk
    split at hs
    · rename_i hlen
      subst hlen
      cases hs
      exact lv_iload_n hx hb hd rfl (hL.at hk (fun z => by cases z)) (kk H locs L hH hS hL)
    · cases hs
  · cases hs
theorem q_n_iload {k : Nat} (hF : q_Fx p s m args meth c R M) (hG : q_G E D cid s0) (hY : q_Y s0 s) {len : Nat} (hd : decode M.2.1 pc = .ok (.iload k, len)) (hs : q_stepI E M (.iload k) len pc ls st h = some (.inl f)) (hbd : c0 ≤ h.2.2.1 ∧ n0 ≤ h.2.2.2 ∧ f.2.2.2.2.2.1 - c0 ≤ R.cells ∧ f.2.2.2.2.2.2 - n0 ≤ R.slots) (hH : q_hp D cid s0.heap.size h H) (hS : va_S (q_A s0) s.heap H locs) (hL : q_L L M.2.2.1 ls) (kk : ∀ (H1 : Heap) (locs1 : List Loc) (L1 : Array Slot), q_hp D cid s0.heap.size f.2.2.2 H1 → va_S (q_A s0) s.heap H1 locs1 → q_L L1 M.2.2.1 f.2.1 → W p l e R s m args below meth c H1 locs1 (f.2.2.2.2.2.1 - c0) (f.2.2.2.2.2.2 - n0) Q (F0 m f.1 L1 f.2.2.1)) : W p l e R s m args below meth c H locs (h.2.2.1 - c0) (h.2.2.2 - n0) Q (F0 m pc L st) := by
  obtain ⟨hx, hb, hr, hml, hown, hts, hlk, hnm, htab, hfr, hlo⟩ := hF
  simp only [q_stepI, q_nx] at hs
  split at hs
  · rename_i x hk
    split at hs
    · rename_i hlen
      subst hlen
      cases hs
      exact lv_iload hx hb hd (hL.at hk (fun z => by cases z)) (kk H locs L hH hS hL)
    · cases hs
  · cases hs
theorem q_n_lload_n {k : Fin 4} (hF : q_Fx p s m args meth c R M) (hG : q_G E D cid s0) (hY : q_Y s0 s) {len : Nat} (hd : decode M.2.1 pc = .ok (.lload_n k, len)) (hs : q_stepI E M (.lload_n k) len pc ls st h = some (.inl f)) (hbd : c0 ≤ h.2.2.1 ∧ n0 ≤ h.2.2.2 ∧ f.2.2.2.2.2.1 - c0 ≤ R.cells ∧ f.2.2.2.2.2.2 - n0 ≤ R.slots) (hH : q_hp D cid s0.heap.size h H) (hS : va_S (q_A s0) s.heap H locs) (hL : q_L L M.2.2.1 ls) (kk : ∀ (H1 : Heap) (locs1 : List Loc) (L1 : Array Slot), q_hp D cid s0.heap.size f.2.2.2 H1 → va_S (q_A s0) s.heap H1 locs1 → q_L L1 M.2.2.1 f.2.1 → W p l e R s m args below meth c H1 locs1 (f.2.2.2.2.2.1 - c0) (f.2.2.2.2.2.2 - n0) Q (F0 m f.1 L1 f.2.2.1)) : W p l e R s m args below meth c H locs (h.2.2.1 - c0) (h.2.2.2 - n0) Q (F0 m pc L st) := by
  obtain ⟨hx, hb, hr, hml, hown, hts, hlk, hnm, htab, hfr, hlo⟩ := hF
  simp only [q_stepI, q_nx] at hs
  split at hs
  · rename_i x hk
    split at hs
    · rename_i hlen
      subst hlen
      cases hs
      exact lv_lload_n hx hb hd rfl (hL.at hk (fun z => by cases z)) (kk H locs L hH hS hL)
    · cases hs
  · cases hs
theorem q_n_lload {k : Nat} (hF : q_Fx p s m args meth c R M) (hG : q_G E D cid s0) (hY : q_Y s0 s) {len : Nat} (hd : decode M.2.1 pc = .ok (.lload k, len)) (hs : q_stepI E M (.lload k) len pc ls st h = some (.inl f)) (hbd : c0 ≤ h.2.2.1 ∧ n0 ≤ h.2.2.2 ∧ f.2.2.2.2.2.1 - c0 ≤ R.cells ∧ f.2.2.2.2.2.2 - n0 ≤ R.slots) (hH : q_hp D cid s0.heap.size h H) (hS : va_S (q_A s0) s.heap H locs) (hL : q_L L M.2.2.1 ls) (kk : ∀ (H1 : Heap) (locs1 : List Loc) (L1 : Array Slot), q_hp D cid s0.heap.size f.2.2.2 H1 → va_S (q_A s0) s.heap H1 locs1 → q_L L1 M.2.2.1 f.2.1 → W p l e R s m args below meth c H1 locs1 (f.2.2.2.2.2.1 - c0) (f.2.2.2.2.2.2 - n0) Q (F0 m f.1 L1 f.2.2.1)) : W p l e R s m args below meth c H locs (h.2.2.1 - c0) (h.2.2.2 - n0) Q (F0 m pc L st) := by
  obtain ⟨hx, hb, hr, hml, hown, hts, hlk, hnm, htab, hfr, hlo⟩ := hF
  simp only [q_stepI, q_nx] at hs
  split at hs
  · rename_i x hk
    split at hs
    · rename_i hlen
      subst hlen
      cases hs
      exact lv_lload hx hb hd (hL.at hk (fun z => by cases z)) (kk H locs L hH hS hL)
    · cases hs
  · cases hs
theorem q_n_aload_n {k : Fin 4} (hF : q_Fx p s m args meth c R M) (hG : q_G E D cid s0) (hY : q_Y s0 s) {len : Nat} (hd : decode M.2.1 pc = .ok (.aload_n k, len)) (hs : q_stepI E M (.aload_n k) len pc ls st h = some (.inl f)) (hbd : c0 ≤ h.2.2.1 ∧ n0 ≤ h.2.2.2 ∧ f.2.2.2.2.2.1 - c0 ≤ R.cells ∧ f.2.2.2.2.2.2 - n0 ≤ R.slots) (hH : q_hp D cid s0.heap.size h H) (hS : va_S (q_A s0) s.heap H locs) (hL : q_L L M.2.2.1 ls) (kk : ∀ (H1 : Heap) (locs1 : List Loc) (L1 : Array Slot), q_hp D cid s0.heap.size f.2.2.2 H1 → va_S (q_A s0) s.heap H1 locs1 → q_L L1 M.2.2.1 f.2.1 → W p l e R s m args below meth c H1 locs1 (f.2.2.2.2.2.1 - c0) (f.2.2.2.2.2.2 - n0) Q (F0 m f.1 L1 f.2.2.1)) : W p l e R s m args below meth c H locs (h.2.2.1 - c0) (h.2.2.2 - n0) Q (F0 m pc L st) := by
  obtain ⟨hx, hb, hr, hml, hown, hts, hlk, hnm, htab, hfr, hlo⟩ := hF
  simp only [q_stepI, q_nx] at hs
  split at hs
  · rename_i x hk
    split at hs
    · rename_i hlen
      subst hlen
      cases hs
      exact lv_aload_n hx hb hd rfl (hL.at hk (fun z => by cases z)) (kk H locs L hH hS hL)
    · cases hs
  · cases hs
theorem q_n_aload {k : Nat} (hF : q_Fx p s m args meth c R M) (hG : q_G E D cid s0) (hY : q_Y s0 s) {len : Nat} (hd : decode M.2.1 pc = .ok (.aload k, len)) (hs : q_stepI E M (.aload k) len pc ls st h = some (.inl f)) (hbd : c0 ≤ h.2.2.1 ∧ n0 ≤ h.2.2.2 ∧ f.2.2.2.2.2.1 - c0 ≤ R.cells ∧ f.2.2.2.2.2.2 - n0 ≤ R.slots) (hH : q_hp D cid s0.heap.size h H) (hS : va_S (q_A s0) s.heap H locs) (hL : q_L L M.2.2.1 ls) (kk : ∀ (H1 : Heap) (locs1 : List Loc) (L1 : Array Slot), q_hp D cid s0.heap.size f.2.2.2 H1 → va_S (q_A s0) s.heap H1 locs1 → q_L L1 M.2.2.1 f.2.1 → W p l e R s m args below meth c H1 locs1 (f.2.2.2.2.2.1 - c0) (f.2.2.2.2.2.2 - n0) Q (F0 m f.1 L1 f.2.2.1)) : W p l e R s m args below meth c H locs (h.2.2.1 - c0) (h.2.2.2 - n0) Q (F0 m pc L st) := by
  obtain ⟨hx, hb, hr, hml, hown, hts, hlk, hnm, htab, hfr, hlo⟩ := hF
  simp only [q_stepI, q_nx] at hs
  split at hs
  · rename_i x hk
    split at hs
    · rename_i hlen
      subst hlen
      cases hs
      exact lv_aload hx hb hd (hL.at hk (fun z => by cases z)) (kk H locs L hH hS hL)
    · cases hs
  · cases hs
theorem q_n_istore_n {k : Fin 4} (hF : q_Fx p s m args meth c R M) (hG : q_G E D cid s0) (hY : q_Y s0 s) {len : Nat} (hd : decode M.2.1 pc = .ok (.istore_n k, len)) (hs : q_stepI E M (.istore_n k) len pc ls st h = some (.inl f)) (hbd : c0 ≤ h.2.2.1 ∧ n0 ≤ h.2.2.2 ∧ f.2.2.2.2.2.1 - c0 ≤ R.cells ∧ f.2.2.2.2.2.2 - n0 ≤ R.slots) (hH : q_hp D cid s0.heap.size h H) (hS : va_S (q_A s0) s.heap H locs) (hL : q_L L M.2.2.1 ls) (kk : ∀ (H1 : Heap) (locs1 : List Loc) (L1 : Array Slot), q_hp D cid s0.heap.size f.2.2.2 H1 → va_S (q_A s0) s.heap H1 locs1 → q_L L1 M.2.2.1 f.2.1 → W p l e R s m args below meth c H1 locs1 (f.2.2.2.2.2.1 - c0) (f.2.2.2.2.2.2 - n0) Q (F0 m f.1 L1 f.2.2.1)) : W p l e R s m args below meth c H locs (h.2.2.1 - c0) (h.2.2.2 - n0) Q (F0 m pc L st) := by
  obtain ⟨hx, hb, hr, hml, hown, hts, hlk, hnm, htab, hfr, hlo⟩ := hF
  simp only [q_stepI, q_nx] at hs
  split at hs
  · split at hs
    · rename_i hlen
      obtain ⟨hlen, hk⟩ := hlen
      subst hlen
      cases hs
      exact lv_istore_n hx hb hd rfl hL.has (hL.1 ▸ hk) rfl (fun L1 h1 => kk H locs L1 hH hS (q_L.st1 hL.1 h1))
    · cases hs
  · cases hs
theorem q_n_istore {k : Nat} (hF : q_Fx p s m args meth c R M) (hG : q_G E D cid s0) (hY : q_Y s0 s) {len : Nat} (hd : decode M.2.1 pc = .ok (.istore k, len)) (hs : q_stepI E M (.istore k) len pc ls st h = some (.inl f)) (hbd : c0 ≤ h.2.2.1 ∧ n0 ≤ h.2.2.2 ∧ f.2.2.2.2.2.1 - c0 ≤ R.cells ∧ f.2.2.2.2.2.2 - n0 ≤ R.slots) (hH : q_hp D cid s0.heap.size h H) (hS : va_S (q_A s0) s.heap H locs) (hL : q_L L M.2.2.1 ls) (kk : ∀ (H1 : Heap) (locs1 : List Loc) (L1 : Array Slot), q_hp D cid s0.heap.size f.2.2.2 H1 → va_S (q_A s0) s.heap H1 locs1 → q_L L1 M.2.2.1 f.2.1 → W p l e R s m args below meth c H1 locs1 (f.2.2.2.2.2.1 - c0) (f.2.2.2.2.2.2 - n0) Q (F0 m f.1 L1 f.2.2.1)) : W p l e R s m args below meth c H locs (h.2.2.1 - c0) (h.2.2.2 - n0) Q (F0 m pc L st) := by
  obtain ⟨hx, hb, hr, hml, hown, hts, hlk, hnm, htab, hfr, hlo⟩ := hF
  simp only [q_stepI, q_nx] at hs
  split at hs
  · split at hs
    · rename_i hlen
      obtain ⟨hlen, hk⟩ := hlen
      subst hlen
      cases hs
      exact lv_istore hx hb hd hL.has (hL.1 ▸ hk) rfl (fun L1 h1 => kk H locs L1 hH hS (q_L.st1 hL.1 h1))
    · cases hs
  · cases hs
theorem q_n_astore_n {k : Fin 4} (hF : q_Fx p s m args meth c R M) (hG : q_G E D cid s0) (hY : q_Y s0 s) {len : Nat} (hd : decode M.2.1 pc = .ok (.astore_n k, len)) (hs : q_stepI E M (.astore_n k) len pc ls st h = some (.inl f)) (hbd : c0 ≤ h.2.2.1 ∧ n0 ≤ h.2.2.2 ∧ f.2.2.2.2.2.1 - c0 ≤ R.cells ∧ f.2.2.2.2.2.2 - n0 ≤ R.slots) (hH : q_hp D cid s0.heap.size h H) (hS : va_S (q_A s0) s.heap H locs) (hL : q_L L M.2.2.1 ls) (kk : ∀ (H1 : Heap) (locs1 : List Loc) (L1 : Array Slot), q_hp D cid s0.heap.size f.2.2.2 H1 → va_S (q_A s0) s.heap H1 locs1 → q_L L1 M.2.2.1 f.2.1 → W p l e R s m args below meth c H1 locs1 (f.2.2.2.2.2.1 - c0) (f.2.2.2.2.2.2 - n0) Q (F0 m f.1 L1 f.2.2.1)) : W p l e R s m args below meth c H locs (h.2.2.1 - c0) (h.2.2.2 - n0) Q (F0 m pc L st) := by
  obtain ⟨hx, hb, hr, hml, hown, hts, hlk, hnm, htab, hfr, hlo⟩ := hF
  simp only [q_stepI, q_nx] at hs
  split at hs
  · split at hs
    · rename_i hlen
      obtain ⟨hlen, hk⟩ := hlen
      subst hlen
      cases hs
      exact lv_astore_n hx hb hd rfl hL.has (hL.1 ▸ hk) rfl (fun L1 h1 => kk H locs L1 hH hS (q_L.st1 hL.1 h1))
    · cases hs
  · cases hs
theorem q_n_astore {k : Nat} (hF : q_Fx p s m args meth c R M) (hG : q_G E D cid s0) (hY : q_Y s0 s) {len : Nat} (hd : decode M.2.1 pc = .ok (.astore k, len)) (hs : q_stepI E M (.astore k) len pc ls st h = some (.inl f)) (hbd : c0 ≤ h.2.2.1 ∧ n0 ≤ h.2.2.2 ∧ f.2.2.2.2.2.1 - c0 ≤ R.cells ∧ f.2.2.2.2.2.2 - n0 ≤ R.slots) (hH : q_hp D cid s0.heap.size h H) (hS : va_S (q_A s0) s.heap H locs) (hL : q_L L M.2.2.1 ls) (kk : ∀ (H1 : Heap) (locs1 : List Loc) (L1 : Array Slot), q_hp D cid s0.heap.size f.2.2.2 H1 → va_S (q_A s0) s.heap H1 locs1 → q_L L1 M.2.2.1 f.2.1 → W p l e R s m args below meth c H1 locs1 (f.2.2.2.2.2.1 - c0) (f.2.2.2.2.2.2 - n0) Q (F0 m f.1 L1 f.2.2.1)) : W p l e R s m args below meth c H locs (h.2.2.1 - c0) (h.2.2.2 - n0) Q (F0 m pc L st) := by
  obtain ⟨hx, hb, hr, hml, hown, hts, hlk, hnm, htab, hfr, hlo⟩ := hF
  simp only [q_stepI, q_nx] at hs
  split at hs
  · split at hs
    · rename_i hlen
      obtain ⟨hlen, hk⟩ := hlen
      subst hlen
      cases hs
      exact lv_astore hx hb hd hL.has (hL.1 ▸ hk) rfl (fun L1 h1 => kk H locs L1 hH hS (q_L.st1 hL.1 h1))
    · cases hs
  · cases hs
theorem q_n_lstore_n {k : Fin 4} (hF : q_Fx p s m args meth c R M) (hG : q_G E D cid s0) (hY : q_Y s0 s) {len : Nat} (hd : decode M.2.1 pc = .ok (.lstore_n k, len)) (hs : q_stepI E M (.lstore_n k) len pc ls st h = some (.inl f)) (hbd : c0 ≤ h.2.2.1 ∧ n0 ≤ h.2.2.2 ∧ f.2.2.2.2.2.1 - c0 ≤ R.cells ∧ f.2.2.2.2.2.2 - n0 ≤ R.slots) (hH : q_hp D cid s0.heap.size h H) (hS : va_S (q_A s0) s.heap H locs) (hL : q_L L M.2.2.1 ls) (kk : ∀ (H1 : Heap) (locs1 : List Loc) (L1 : Array Slot), q_hp D cid s0.heap.size f.2.2.2 H1 → va_S (q_A s0) s.heap H1 locs1 → q_L L1 M.2.2.1 f.2.1 → W p l e R s m args below meth c H1 locs1 (f.2.2.2.2.2.1 - c0) (f.2.2.2.2.2.2 - n0) Q (F0 m f.1 L1 f.2.2.1)) : W p l e R s m args below meth c H locs (h.2.2.1 - c0) (h.2.2.2 - n0) Q (F0 m pc L st) := by
  obtain ⟨hx, hb, hr, hml, hown, hts, hlk, hnm, htab, hfr, hlo⟩ := hF
  simp only [q_stepI, q_nx] at hs
  split at hs
  · split at hs
    · rename_i hlen
      obtain ⟨hlen, hk⟩ := hlen
      subst hlen
      cases hs
      exact lv_lstore_n hx hb hd rfl hL.has (hL.1 ▸ hk) rfl (fun L1 h1 => kk H locs L1 hH hS (q_L.st2 hL.1 h1))
    · cases hs
  · cases hs
theorem q_n_fstore {k : Nat} (hF : q_Fx p s m args meth c R M) (hG : q_G E D cid s0) (hY : q_Y s0 s) {len : Nat} (hd : decode M.2.1 pc = .ok (.fstore k, len)) (hs : q_stepI E M (.fstore k) len pc ls st h = some (.inl f)) (hbd : c0 ≤ h.2.2.1 ∧ n0 ≤ h.2.2.2 ∧ f.2.2.2.2.2.1 - c0 ≤ R.cells ∧ f.2.2.2.2.2.2 - n0 ≤ R.slots) (hH : q_hp D cid s0.heap.size h H) (hS : va_S (q_A s0) s.heap H locs) (hL : q_L L M.2.2.1 ls) (kk : ∀ (H1 : Heap) (locs1 : List Loc) (L1 : Array Slot), q_hp D cid s0.heap.size f.2.2.2 H1 → va_S (q_A s0) s.heap H1 locs1 → q_L L1 M.2.2.1 f.2.1 → W p l e R s m args below meth c H1 locs1 (f.2.2.2.2.2.1 - c0) (f.2.2.2.2.2.2 - n0) Q (F0 m f.1 L1 f.2.2.1)) : W p l e R s m args below meth c H locs (h.2.2.1 - c0) (h.2.2.2 - n0) Q (F0 m pc L st) := by
  obtain ⟨hx, hb, hr, hml, hown, hts, hlk, hnm, htab, hfr, hlo⟩ := hF
  simp only [q_stepI, q_nx] at hs
  split at hs
  · split at hs
    · rename_i hlen
      obtain ⟨hlen, hk⟩ := hlen
      subst hlen
      cases hs
      exact lv_fstore hx hb hd hL.has (hL.1 ▸ hk) rfl (fun L1 h1 => kk H locs L1 hH hS (q_L.st1 hL.1 h1))
    · cases hs
  · cases hs
theorem q_n_dstore {k : Nat} (hF : q_Fx p s m args meth c R M) (hG : q_G E D cid s0) (hY : q_Y s0 s) {len : Nat} (hd : decode M.2.1 pc = .ok (.dstore k, len)) (hs : q_stepI E M (.dstore k) len pc ls st h = some (.inl f)) (hbd : c0 ≤ h.2.2.1 ∧ n0 ≤ h.2.2.2 ∧ f.2.2.2.2.2.1 - c0 ≤ R.cells ∧ f.2.2.2.2.2.2 - n0 ≤ R.slots) (hH : q_hp D cid s0.heap.size h H) (hS : va_S (q_A s0) s.heap H locs) (hL : q_L L M.2.2.1 ls) (kk : ∀ (H1 : Heap) (locs1 : List Loc) (L1 : Array Slot), q_hp D cid s0.heap.size f.2.2.2 H1 → va_S (q_A s0) s.heap H1 locs1 → q_L L1 M.2.2.1 f.2.1 → W p l e R s m args below meth c H1 locs1 (f.2.2.2.2.2.1 - c0) (f.2.2.2.2.2.2 - n0) Q (F0 m f.1 L1 f.2.2.1)) : W p l e R s m args below meth c H locs (h.2.2.1 - c0) (h.2.2.2 - n0) Q (F0 m pc L st) := by
  obtain ⟨hx, hb, hr, hml, hown, hts, hlk, hnm, htab, hfr, hlo⟩ := hF
  simp only [q_stepI, q_nx] at hs
  split at hs
  · split at hs
    · rename_i hlen
      obtain ⟨hlen, hk⟩ := hlen
      subst hlen
      cases hs
      exact lv_dstore hx hb hd hL.has (hL.1 ▸ hk) rfl (fun L1 h1 => kk H locs L1 hH hS (q_L.st2 hL.1 h1))
    · cases hs
  · cases hs
theorem q_n_lstore {k : Nat} (hF : q_Fx p s m args meth c R M) (hG : q_G E D cid s0) (hY : q_Y s0 s) {len : Nat} (hd : decode M.2.1 pc = .ok (.lstore k, len)) (hs : q_stepI E M (.lstore k) len pc ls st h = some (.inl f)) (hbd : c0 ≤ h.2.2.1 ∧ n0 ≤ h.2.2.2 ∧ f.2.2.2.2.2.1 - c0 ≤ R.cells ∧ f.2.2.2.2.2.2 - n0 ≤ R.slots) (hH : q_hp D cid s0.heap.size h H) (hS : va_S (q_A s0) s.heap H locs) (hL : q_L L M.2.2.1 ls) (kk : ∀ (H1 : Heap) (locs1 : List Loc) (L1 : Array Slot), q_hp D cid s0.heap.size f.2.2.2 H1 → va_S (q_A s0) s.heap H1 locs1 → q_L L1 M.2.2.1 f.2.1 → W p l e R s m args below meth c H1 locs1 (f.2.2.2.2.2.1 - c0) (f.2.2.2.2.2.2 - n0) Q (F0 m f.1 L1 f.2.2.1)) : W p l e R s m args below meth c H locs (h.2.2.1 - c0) (h.2.2.2 - n0) Q (F0 m pc L st) := by
  obtain ⟨hx, hb, hr, hml, hown, hts, hlk, hnm, htab, hfr, hlo⟩ := hF
  simp only [q_stepI, q_nx] at hs
  split at hs
  · split at hs
    · rename_i hlen
      obtain ⟨hlen, hk⟩ := hlen
      subst hlen
      cases hs
      exact lv_lstore hx hb hd hL.has (hL.1 ▸ hk) rfl (fun L1 h1 => kk H locs L1 hH hS (q_L.st2 hL.1 h1))
    · cases hs
  · cases hs
theorem q_n_iinc {k : Nat} {n : Int} (hF : q_Fx p s m args meth c R M) (hG : q_G E D cid s0) (hY : q_Y s0 s) {len : Nat} (hd : decode M.2.1 pc = .ok (.iinc k n, len)) (hs : q_stepI E M (.iinc k n) len pc ls st h = some (.inl f)) (hbd : c0 ≤ h.2.2.1 ∧ n0 ≤ h.2.2.2 ∧ f.2.2.2.2.2.1 - c0 ≤ R.cells ∧ f.2.2.2.2.2.2 - n0 ≤ R.slots) (hH : q_hp D cid s0.heap.size h H) (hS : va_S (q_A s0) s.heap H locs) (hL : q_L L M.2.2.1 ls) (kk : ∀ (H1 : Heap) (locs1 : List Loc) (L1 : Array Slot), q_hp D cid s0.heap.size f.2.2.2 H1 → va_S (q_A s0) s.heap H1 locs1 → q_L L1 M.2.2.1 f.2.1 → W p l e R s m args below meth c H1 locs1 (f.2.2.2.2.2.1 - c0) (f.2.2.2.2.2.2 - n0) Q (F0 m f.1 L1 f.2.2.1)) : W p l e R s m args below meth c H locs (h.2.2.1 - c0) (h.2.2.2 - n0) Q (F0 m pc L st) := by
  obtain ⟨hx, hb, hr, hml, hown, hts, hlk, hnm, htab, hfr, hlo⟩ := hF
  simp only [q_stepI, q_nx] at hs
  split at hs
  · rename_i x hk
    split at hs
    · rename_i hlen
      subst hlen
      cases hs
      obtain ⟨j, hj⟩ := List.getElem?_of_mem (q_lv_mem.mpr ⟨hk, fun z => by cases z⟩)
      exact lv_iinc hx hb hd hL.has hj rfl (hL.1 ▸ (List.getElem?_eq_some_iff.mp hk).1) rfl (fun L1 h1 => kk H locs L1 hH hS (q_L.st1 hL.1 h1))
    · cases hs
  · cases hs
theorem q_n_ldc2_w {ix : Nat} (hF : q_Fx p s m args meth c R M) (hG : q_G E D cid s0) (hY : q_Y s0 s) {len : Nat} (hd : decode M.2.1 pc = .ok (.ldc2_w ix, len)) (hs : q_stepI E M (.ldc2_w ix) len pc ls st h = some (.inl f)) (hbd : c0 ≤ h.2.2.1 ∧ n0 ≤ h.2.2.2 ∧ f.2.2.2.2.2.1 - c0 ≤ R.cells ∧ f.2.2.2.2.2.2 - n0 ≤ R.slots) (hH : q_hp D cid s0.heap.size h H) (hS : va_S (q_A s0) s.heap H locs) (hL : q_L L M.2.2.1 ls) (kk : ∀ (H1 : Heap) (locs1 : List Loc) (L1 : Array Slot), q_hp D cid s0.heap.size f.2.2.2 H1 → va_S (q_A s0) s.heap H1 locs1 → q_L L1 M.2.2.1 f.2.1 → W p l e R s m args below meth c H1 locs1 (f.2.2.2.2.2.1 - c0) (f.2.2.2.2.2.2 - n0) Q (F0 m f.1 L1 f.2.2.1)) : W p l e R s m args below meth c H locs (h.2.2.1 - c0) (h.2.2.2 - n0) Q (F0 m pc L st) := by
  obtain ⟨hx, hb, hr, hml, hown, hts, hlk, hnm, htab, hfr, hlo⟩ := hF
  simp only [q_stepI, q_nx] at hs
  split at hs
  · rename_i x pos hq
    split at hs
    · rename_i hlen
      obtain ⟨hlen, ho⟩ := hlen
      subst hlen
      cases hs
      exact lv_ldc2 hx hb hown (q_word hts (q_ldl_ok _ ho _ (q_lk_mem hq)) rfl) hd (kk H locs L hH hS hL)
    · cases hs
  · cases hs
theorem q_go_some {off : Int} (hs : q_go pc off ls st h = some (.inl f)) : ∃ t, (pc : Int) + off = ((t : Nat) : Int) ∧ f = (t, ls, st, h) := by
  unfold q_go q_nx at hs
  split at hs
  · rename_i t ht
    cases hs
    exact ⟨t, q_tgt_ok ht, rfl⟩
  · cases hs
theorem q_n_ifnonnull {off : Int} (hF : q_Fx p s m args meth c R M) (hG : q_G E D cid s0) (hY : q_Y s0 s) {len : Nat} (hd : decode M.2.1 pc = .ok (.ifnonnull off, len)) (hs : q_stepI E M (.ifnonnull off) len pc ls st h = some (.inl f)) (hbd : c0 ≤ h.2.2.1 ∧ n0 ≤ h.2.2.2 ∧ f.2.2.2.2.2.1 - c0 ≤ R.cells ∧ f.2.2.2.2.2.2 - n0 ≤ R.slots) (hH : q_hp D cid s0.heap.size h H) (hS : va_S (q_A s0) s.heap H locs) (hL : q_L L M.2.2.1 ls) (kk : ∀ (H1 : Heap) (locs1 : List Loc) (L1 : Array Slot), q_hp D cid s0.heap.size f.2.2.2 H1 → va_S (q_A s0) s.heap H1 locs1 → q_L L1 M.2.2.1 f.2.1 → W p l e R s m args below meth c H1 locs1 (f.2.2.2.2.2.1 - c0) (f.2.2.2.2.2.2 - n0) Q (F0 m f.1 L1 f.2.2.1)) : W p l e R s m args below meth c H locs (h.2.2.1 - c0) (h.2.2.2 - n0) Q (F0 m pc L st) := by
  obtain ⟨hx, hb, hr, hml, hown, hts, hlk, hnm, htab, hfr, hlo⟩ := hF
  simp only [q_stepI, q_nx] at hs
  split at hs
  · split at hs
    · rename_i hlen
      subst hlen
      obtain ⟨t, ht, rfl⟩ := q_go_some hs
      exact lv_ifnonnull hx hb hd ht (kk H locs L hH hS hL)
    · cases hs
  · cases hs
theorem q_n_ifnull {off : Int} (hF : q_Fx p s m args meth c R M) (hG : q_G E D cid s0) (hY : q_Y s0 s) {len : Nat} (hd : decode M.2.1 pc = .ok (.ifnull off, len)) (hs : q_stepI E M (.ifnull off) len pc ls st h = some (.inl f)) (hbd : c0 ≤ h.2.2.1 ∧ n0 ≤ h.2.2.2 ∧ f.2.2.2.2.2.1 - c0 ≤ R.cells ∧ f.2.2.2.2.2.2 - n0 ≤ R.slots) (hH : q_hp D cid s0.heap.size h H) (hS : va_S (q_A s0) s.heap H locs) (hL : q_L L M.2.2.1 ls) (kk : ∀ (H1 : Heap) (locs1 : List Loc) (L1 : Array Slot), q_hp D cid s0.heap.size f.2.2.2 H1 → va_S (q_A s0) s.heap H1 locs1 → q_L L1 M.2.2.1 f.2.1 → W p l e R s m args below meth c H1 locs1 (f.2.2.2.2.2.1 - c0) (f.2.2.2.2.2.2 - n0) Q (F0 m f.1 L1 f.2.2.1)) : W p l e R s m args below meth c H locs (h.2.2.1 - c0) (h.2.2.2 - n0) Q (F0 m pc L st) := by
  obtain ⟨hx, hb, hr, hml, hown, hts, hlk, hnm, htab, hfr, hlo⟩ := hF
  simp only [q_stepI, q_nx] at hs
  split at hs
  · split at hs
    · rename_i hlen
      subst hlen
      cases hs
      exact lv_ifnull hx hb hd (kk H locs L hH hS hL)
    · cases hs
  · cases hs
theorem q_n_goto {off : Int} (hF : q_Fx p s m args meth c R M) (hG : q_G E D cid s0) (hY : q_Y s0 s) {len : Nat} (hd : decode M.2.1 pc = .ok (.goto off, len)) (hs : q_stepI E M (.goto off) len pc ls st h = some (.inl f)) (hbd : c0 ≤ h.2.2.1 ∧ n0 ≤ h.2.2.2 ∧ f.2.2.2.2.2.1 - c0 ≤ R.cells ∧ f.2.2.2.2.2.2 - n0 ≤ R.slots) (hH : q_hp D cid s0.heap.size h H) (hS : va_S (q_A s0) s.heap H locs) (hL : q_L L M.2.2.1 ls) (kk : ∀ (H1 : Heap) (locs1 : List Loc) (L1 : Array Slot), q_hp D cid s0.heap.size f.2.2.2 H1 → va_S (q_A s0) s.heap H1 locs1 → q_L L1 M.2.2.1 f.2.1 → W p l e R s m args below meth c H1 locs1 (f.2.2.2.2.2.1 - c0) (f.2.2.2.2.2.2 - n0) Q (F0 m f.1 L1 f.2.2.1)) : W p l e R s m args below meth c H locs (h.2.2.1 - c0) (h.2.2.2 - n0) Q (F0 m pc L st) := by
  obtain ⟨hx, hb, hr, hml, hown, hts, hlk, hnm, htab, hfr, hlo⟩ := hF
  simp only [q_stepI, q_nx] at hs
  split at hs
  · rename_i hlen
    subst hlen
    obtain ⟨t, ht, rfl⟩ := q_go_some hs
    exact lv_goto hx hb hd ht (kk H locs L hH hS hL)
  · cases hs
theorem q_n_ifCond_eq {off : Int} (hF : q_Fx p s m args meth c R M) (hG : q_G E D cid s0) (hY : q_Y s0 s) {len : Nat} (hd : decode M.2.1 pc = .ok (.ifCond .eq off, len)) (hs : q_stepI E M (.ifCond .eq off) len pc ls st h = some (.inl f)) (hbd : c0 ≤ h.2.2.1 ∧ n0 ≤ h.2.2.2 ∧ f.2.2.2.2.2.1 - c0 ≤ R.cells ∧ f.2.2.2.2.2.2 - n0 ≤ R.slots) (hH : q_hp D cid s0.heap.size h H) (hS : va_S (q_A s0) s.heap H locs) (hL : q_L L M.2.2.1 ls) (kk : ∀ (H1 : Heap) (locs1 : List Loc) (L1 : Array Slot), q_hp D cid s0.heap.size f.2.2.2 H1 → va_S (q_A s0) s.heap H1 locs1 → q_L L1 M.2.2.1 f.2.1 → W p l e R s m args below meth c H1 locs1 (f.2.2.2.2.2.1 - c0) (f.2.2.2.2.2.2 - n0) Q (F0 m f.1 L1 f.2.2.1)) : W p l e R s m args below meth c H locs (h.2.2.1 - c0) (h.2.2.2 - n0) Q (F0 m pc L st) := by
  obtain ⟨hx, hb, hr, hml, hown, hts, hlk, hnm, htab, hfr, hlo⟩ := hF
  simp only [q_stepI, q_nx] at hs
  split at hs
  · rename_i x st1
    split at hs
    · rename_i hlen
      subst hlen
      unfold q_br q_nx at hs
      split at hs
      · rename_i t ht
        unfold q_if at hs
        refine lv_if_eq hx hb hd (q_tgt_ok ht) (fun hc => ?_) (fun hc => ?_)
        · have e2 : q_cond .eq x 0 = true := decide_eq_true hc
          rw [e2] at hs
          cases hs
          exact kk H locs L hH hS hL
        · have e2 : q_cond .eq x 0 = false := decide_eq_false hc
          rw [e2] at hs
          cases hs
          exact kk H locs L hH hS hL
      · cases hs
    · cases hs
  · cases hs
theorem q_n_if_icmp_eq {off : Int} (hF : q_Fx p s m args meth c R M) (hG : q_G E D cid s0) (hY : q_Y s0 s) {len : Nat} (hd : decode M.2.1 pc = .ok (.if_icmp .eq off, len)) (hs : q_stepI E M (.if_icmp .eq off) len pc ls st h = some (.inl f)) (hbd : c0 ≤ h.2.2.1 ∧ n0 ≤ h.2.2.2 ∧ f.2.2.2.2.2.1 - c0 ≤ R.cells ∧ f.2.2.2.2.2.2 - n0 ≤ R.slots) (hH : q_hp D cid s0.heap.size h H) (hS : va_S (q_A s0) s.heap H locs) (hL : q_L L M.2.2.1 ls) (kk : ∀ (H1 : Heap) (locs1 : List Loc) (L1 : Array Slot), q_hp D cid s0.heap.size f.2.2.2 H1 → va_S (q_A s0) s.heap H1 locs1 → q_L L1 M.2.2.1 f.2.1 → W p l e R s m args below meth c H1 locs1 (f.2.2.2.2.2.1 - c0) (f.2.2.2.2.2.2 - n0) Q (F0 m f.1 L1 f.2.2.1)) : W p l e R s m args below meth c H locs (h.2.2.1 - c0) (h.2.2.2 - n0) Q (F0 m pc L st) := by
  obtain ⟨hx, hb, hr, hml, hown, hts, hlk, hnm, htab, hfr, hlo⟩ := hF
  simp only [q_stepI, q_nx] at hs
  split at hs
  · rename_i y x st1
    split at hs
    · rename_i hlen
      subst hlen
      unfold q_br q_nx at hs
      split at hs
      · rename_i t ht
        unfold q_if at hs
        refine lv_icmp_eq hx hb hd (q_tgt_ok ht) (fun hc => ?_) (fun hc => ?_)
        · have e2 : q_cond .eq x y = true := decide_eq_true hc
          rw [e2] at hs
          cases hs
          exact kk H locs L hH hS hL
        · have e2 : q_cond .eq x y = false := decide_eq_false hc
          rw [e2] at hs
          cases hs
          exact kk H locs L hH hS hL
      · cases hs
    · cases hs
  · cases hs
theorem q_n_ifCond_ne {off : Int} (hF : q_Fx p s m args meth c R M) (hG : q_G E D cid s0) (hY : q_Y s0 s) {len : Nat} (hd : decode M.2.1 pc = .ok (.ifCond .ne off, len)) (hs : q_stepI E M (.ifCond .ne off) len pc ls st h = some (.inl f)) (hbd : c0 ≤ h.2.2.1 ∧ n0 ≤ h.2.2.2 ∧ f.2.2.2.2.2.1 - c0 ≤ R.cells ∧ f.2.2.2.2.2.2 - n0 ≤ R.slots) (hH : q_hp D cid s0.heap.size h H) (hS : va_S (q_A s0) s.heap H locs) (hL : q_L L M.2.2.1 ls) (kk : ∀ (H1 : Heap) (locs1 : List Loc) (L1 : Array Slot), q_hp D cid s0.heap.size f.2.2.2 H1 → va_S (q_A s0) s.heap H1 locs1 → q_L L1 M.2.2.1 f.2.1 → W p l e R s m args below meth c H1 locs1 (f.2.2.2.2.2.1 - c0) (f.2.2.2.2.2.2 - n0) Q (F0 m f.1 L1 f.2.2.1)) : W p l e R s m args below meth c H locs (h.2.2.1 - c0) (h.2.2.2 - n0) Q (F0 m pc L st) := by
  obtain ⟨hx, hb, hr, hml, hown, hts, hlk, hnm, htab, hfr, hlo⟩ := hF
  simp only [q_stepI, q_nx] at hs
  split at hs
  · rename_i x st1
    split at hs
    · rename_i hlen
      subst hlen
      unfold q_br q_nx at hs
      split at hs
      · rename_i t ht
        unfold q_if at hs
        refine lv_if_ne hx hb hd (q_tgt_ok ht) (fun hc => ?_) (fun hc => ?_)
        · have e2 : q_cond .ne x 0 = true := decide_eq_true hc
          rw [e2] at hs
          cases hs
          exact kk H locs L hH hS hL
        · have e2 : q_cond .ne x 0 = false := decide_eq_false (fun z => z hc)
          rw [e2] at hs
          cases hs
          exact kk H locs L hH hS hL
      · cases hs
    · cases hs
  · cases hs
theorem q_n_if_icmp_ne {off : Int} (hF : q_Fx p s m args meth c R M) (hG : q_G E D cid s0) (hY : q_Y s0 s) {len : Nat} (hd : decode M.2.1 pc = .ok (.if_icmp .ne off, len)) (hs : q_stepI E M (.if_icmp .ne off) len pc ls st h = some (.inl f)) (hbd : c0 ≤ h.2.2.1 ∧ n0 ≤ h.2.2.2 ∧ f.2.2.2.2.2.1 - c0 ≤ R.cells ∧ f.2.2.2.2.2.2 - n0 ≤ R.slots) (hH : q_hp D cid s0.heap.size h H) (hS : va_S (q_A s0) s.heap H locs) (hL : q_L L M.2.2.1 ls) (kk : ∀ (H1 : Heap) (locs1 : List Loc) (L1 : Array Slot), q_hp D cid s0.heap.size f.2.2.2 H1 → va_S (q_A s0) s.heap H1 locs1 → q_L L1 M.2.2.1 f.2.1 → W p l e R s m args below meth c H1 locs1 (f.2.2.2.2.2.1 - c0) (f.2.2.2.2.2.2 - n0) Q (F0 m f.1 L1 f.2.2.1)) : W p l e R s m args below meth c H locs (h.2.2.1 - c0) (h.2.2.2 - n0) Q (F0 m pc L st) := by
  obtain ⟨hx, hb, hr, hml, hown, hts, hlk, hnm, htab, hfr, hlo⟩ := hF
  simp only [q_stepI, q_nx] at hs
  split at hs
  · rename_i y x st1
    split at hs
    · rename_i hlen
      subst hlen
      unfold q_br q_nx at hs
      split at hs
      · rename_i t ht
        unfold q_if at hs
        refine lv_icmp_ne hx hb hd (q_tgt_ok ht) (fun hc => ?_) (fun hc => ?_)
        · have e2 : q_cond .ne x y = true := decide_eq_true hc
          rw [e2] at hs
          cases hs
          exact kk H locs L hH hS hL
        · have e2 : q_cond .ne x y = false := decide_eq_false (fun z => z hc)
          rw [e2] at hs
          cases hs
          exact kk H locs L hH hS hL
      · cases hs
    · cases hs
  · cases hs
theorem q_n_ifCond_lt {off : Int} (hF : q_Fx p s m args meth c R M) (hG : q_G E D cid s0) (hY : q_Y s0 s) {len : Nat} (hd : decode M.2.1 pc = .ok (.ifCond .lt off, len)) (hs : q_stepI E M (.ifCond .lt off) len pc ls st h = some (.inl f)) (hbd : c0 ≤ h.2.2.1 ∧ n0 ≤ h.2.2.2 ∧ f.2.2.2.2.2.1 - c0 ≤ R.cells ∧ f.2.2.2.2.2.2 - n0 ≤ R.slots) (hH : q_hp D cid s0.heap.size h H) (hS : va_S (q_A s0) s.heap H locs) (hL : q_L L M.2.2.1 ls) (kk : ∀ (H1 : Heap) (locs1 : List Loc) (L1 : Array Slot), q_hp D cid s0.heap.size f.2.2.2 H1 → va_S (q_A s0) s.heap H1 locs1 → q_L L1 M.2.2.1 f.2.1 → W p l e R s m args below meth c H1 locs1 (f.2.2.2.2.2.1 - c0) (f.2.2.2.2.2.2 - n0) Q (F0 m f.1 L1 f.2.2.1)) : W p l e R s m args below meth c H locs (h.2.2.1 - c0) (h.2.2.2 - n0) Q (F0 m pc L st) := by
  obtain ⟨hx, hb, hr, hml, hown, hts, hlk, hnm, htab, hfr, hlo⟩ := hF
  simp only [q_stepI, q_nx] at hs
  split at hs
  · rename_i x st1
    split at hs
    · rename_i hlen
      subst hlen
      unfold q_br q_nx at hs
      split at hs
      · rename_i t ht
        unfold q_if at hs
        refine lv_if_lt hx hb hd (q_tgt_ok ht) (fun hc => ?_) (fun hc => ?_)
        · have e2 : q_cond .lt x 0 = true := decide_eq_true hc
          rw [e2] at hs
          cases hs
          exact kk H locs L hH hS hL
        · have e2 : q_cond .lt x 0 = false := decide_eq_false hc
          rw [e2] at hs
          cases hs
          exact kk H locs L hH hS hL
      · cases hs
    · cases hs
  · cases hs
theorem q_n_if_icmp_lt {off : Int} (hF : q_Fx p s m args meth c R M) (hG : q_G E D cid s0) (hY : q_Y s0 s) {len : Nat} (hd : decode M.2.1 pc = .ok (.if_icmp .lt off, len)) (hs : q_stepI E M (.if_icmp .lt off) len pc ls st h = some (.inl f)) (hbd : c0 ≤ h.2.2.1 ∧ n0 ≤ h.2.2.2 ∧ f.2.2.2.2.2.1 - c0 ≤ R.cells ∧ f.2.2.2.2.2.2 - n0 ≤ R.slots) (hH : q_hp D cid s0.heap.size h H) (hS : va_S (q_A s0) s.heap H locs) (hL : q_L L M.2.2.1 ls) (kk : ∀ (H1 : Heap) (locs1 : List Loc) (L1 : Array Slot), q_hp D cid s0.heap.size f.2.2.2 H1 → va_S (q_A s0) s.heap H1 locs1 → q_L L1 M.2.2.1 f.2.1 → W p l e R s m args below meth c H1 locs1 (f.2.2.2.2.2.1 - c0) (f.2.2.2.2.2.2 - n0) Q (F0 m f.1 L1 f.2.2.1)) : W p l e R s m args below meth c H locs (h.2.2.1 - c0) (h.2.2.2 - n0) Q (F0 m pc L st) := by
  obtain ⟨hx, hb, hr, hml, hown, hts, hlk, hnm, htab, hfr, hlo⟩ := hF
  simp only [q_stepI, q_nx] at hs
  split at hs
  · rename_i y x st1
    split at hs
    · rename_i hlen
      subst hlen
      unfold q_br q_nx at hs
      split at hs
      · rename_i t ht
        unfold q_if at hs
        refine lv_icmp_lt hx hb hd (q_tgt_ok ht) (fun hc => ?_) (fun hc => ?_)
        · have e2 : q_cond .lt x y = true := decide_eq_true hc
          rw [e2] at hs
          cases hs
          exact kk H locs L hH hS hL
        · have e2 : q_cond .lt x y = false := decide_eq_false hc
          rw [e2] at hs
          cases hs
          exact kk H locs L hH hS hL
      · cases hs
    · cases hs
  · cases hs
theorem q_n_ifCond_ge {off : Int} (hF : q_Fx p s m args meth c R M) (hG : q_G E D cid s0) (hY : q_Y s0 s) {len : Nat} (hd : decode M.2.1 pc = .ok (.ifCond .ge off, len)) (hs : q_stepI E M (.ifCond .ge off) len pc ls st h = some (.inl f)) (hbd : c0 ≤ h.2.2.1 ∧ n0 ≤ h.2.2.2 ∧ f.2.2.2.2.2.1 - c0 ≤ R.cells ∧ f.2.2.2.2.2.2 - n0 ≤ R.slots) (hH : q_hp D cid s0.heap.size h H) (hS : va_S (q_A s0) s.heap H locs) (hL : q_L L M.2.2.1 ls) (kk : ∀ (H1 : Heap) (locs1 : List Loc) (L1 : Array Slot), q_hp D cid s0.heap.size f.2.2.2 H1 → va_S (q_A s0) s.heap H1 locs1 → q_L L1 M.2.2.1 f.2.1 → W p l e R s m args below meth c H1 locs1 (f.2.2.2.2.2.1 - c0) (f.2.2.2.2.2.2 - n0) Q (F0 m f.1 L1 f.2.2.1)) : W p l e R s m args below meth c H locs (h.2.2.1 - c0) (h.2.2.2 - n0) Q (F0 m pc L st) := by
  obtain ⟨hx, hb, hr, hml, hown, hts, hlk, hnm, htab, hfr, hlo⟩ := hF
  simp only [q_stepI, q_nx] at hs
  split at hs
  · rename_i x st1
    split at hs
    · rename_i hlen
      subst hlen
      unfold q_br q_nx at hs
      split at hs
      · rename_i t ht
        unfold q_if at hs
        refine lv_if_ge hx hb hd (q_tgt_ok ht) (fun hc => ?_) (fun hc => ?_)
        · have e2 : q_cond .ge x 0 = true := decide_eq_true hc
          rw [e2] at hs
          cases hs
          exact kk H locs L hH hS hL
        · have e2 : q_cond .ge x 0 = false := decide_eq_false hc
          rw [e2] at hs
          cases hs
          exact kk H locs L hH hS hL
      · cases hs
    · cases hs
  · cases hs
theorem q_n_if_icmp_ge {off : Int} (hF : q_Fx p s m args meth c R M) (hG : q_G E D cid s0) (hY : q_Y s0 s) {len : Nat} (hd : decode M.2.1 pc = .ok (.if_icmp .ge off, len)) (hs : q_stepI E M (.if_icmp .ge off) len pc ls st h = some (.inl f)) (hbd : c0 ≤ h.2.2.1 ∧ n0 ≤ h.2.2.2 ∧ f.2.2.2.2.2.1 - c0 ≤ R.cells ∧ f.2.2.2.2.2.2 - n0 ≤ R.slots) (hH : q_hp D cid s0.heap.size h H) (hS : va_S (q_A s0) s.heap H locs) (hL : q_L L M.2.2.1 ls) (kk : ∀ (H1 : Heap) (locs1 : List Loc) (L1 : Array Slot), q_hp D cid s0.heap.size f.2.2.2 H1 → va_S (q_A s0) s.heap H1 locs1 → q_L L1 M.2.2.1 f.2.1 → W p l e R s m args below meth c H1 locs1 (f.2.2.2.2.2.1 - c0) (f.2.2.2.2.2.2 - n0) Q (F0 m f.1 L1 f.2.2.1)) : W p l e R s m args below meth c H locs (h.2.2.1 - c0) (h.2.2.2 - n0) Q (F0 m pc L st) := by
  obtain ⟨hx, hb, hr, hml, hown, hts, hlk, hnm, htab, hfr, hlo⟩ := hF
  simp only [q_stepI, q_nx] at hs
  split at hs
  · rename_i y x st1
    split at hs
    · rename_i hlen
      subst hlen
      unfold q_br q_nx at hs
      split at hs
      · rename_i t ht
        unfold q_if at hs
        refine lv_icmp_ge hx hb hd (q_tgt_ok ht) (fun hc => ?_) (fun hc => ?_)
        · have e2 : q_cond .ge x y = true := decide_eq_true hc
          rw [e2] at hs
          cases hs
          exact kk H locs L hH hS hL
        · have e2 : q_cond .ge x y = false := decide_eq_false hc
          rw [e2] at hs
          cases hs
          exact kk H locs L hH hS hL
      · cases hs
    · cases hs
  · cases hs
theorem q_n_ifCond_gt {off : Int} (hF : q_Fx p s m args meth c R M) (hG : q_G E D cid s0) (hY : q_Y s0 s) {len : Nat} (hd : decode M.2.1 pc = .ok (.ifCond .gt off, len)) (hs : q_stepI E M (.ifCond .gt off) len pc ls st h = some (.inl f)) (hbd : c0 ≤ h.2.2.1 ∧ n0 ≤ h.2.2.2 ∧ f.2.2.2.2.2.1 - c0 ≤ R.cells ∧ f.2.2.2.2.2.2 - n0 ≤ R.slots) (hH : q_hp D cid s0.heap.size h H) (hS : va_S (q_A s0) s.heap H locs) (hL : q_L L M.2.2.1 ls) (kk : ∀ (H1 : Heap) (locs1 : List Loc) (L1 : Array Slot), q_hp D cid s0.heap.size f.2.2.2 H1 → va_S (q_A s0) s.heap H1 locs1 → q_L L1 M.2.2.1 f.2.1 → W p l e R s m args below meth c H1 locs1 (f.2.2.2.2.2.1 - c0) (f.2.2.2.2.2.2 - n0) Q (F0 m f.1 L1 f.2.2.1)) : W p l e R s m args below meth c H locs (h.2.2.1 - c0) (h.2.2.2 - n0) Q (F0 m pc L st) := by
  obtain ⟨hx, hb, hr, hml, hown, hts, hlk, hnm, htab, hfr, hlo⟩ := hF
  simp only [q_stepI, q_nx] at hs
  split at hs
  · rename_i x st1
    split at hs
    · rename_i hlen
      subst hlen
      unfold q_br q_nx at hs
      split at hs
      · rename_i t ht
        unfold q_if at hs
        refine lv_if_gt hx hb hd (q_tgt_ok ht) (fun hc => ?_) (fun hc => ?_)
        · have e2 : q_cond .gt x 0 = true := decide_eq_true hc
          rw [e2] at hs
          cases hs
          exact kk H locs L hH hS hL
        · have e2 : q_cond .gt x 0 = false := decide_eq_false hc
          rw [e2] at hs
          cases hs
          exact kk H locs L hH hS hL
      · cases hs
    · cases hs
  · cases hs
theorem q_n_if_icmp_gt {off : Int} (hF : q_Fx p s m args meth c R M) (hG : q_G E D cid s0) (hY : q_Y s0 s) {len : Nat} (hd : decode M.2.1 pc = .ok (.if_icmp .gt off, len)) (hs : q_stepI E M (.if_icmp .gt off) len pc ls st h = some (.inl f)) (hbd : c0 ≤ h.2.2.1 ∧ n0 ≤ h.2.2.2 ∧ f.2.2.2.2.2.1 - c0 ≤ R.cells ∧ f.2.2.2.2.2.2 - n0 ≤ R.slots) (hH : q_hp D cid s0.heap.size h H) (hS : va_S (q_A s0) s.heap H locs) (hL : q_L L M.2.2.1 ls) (kk : ∀ (H1 : Heap) (locs1 : List Loc) (L1 : Array Slot), q_hp D cid s0.heap.size f.2.2.2 H1 → va_S (q_A s0) s.heap H1 locs1 → q_L L1 M.2.2.1 f.2.1 → W p l e R s m args below meth c H1 locs1 (f.2.2.2.2.2.1 - c0) (f.2.2.2.2.2.2 - n0) Q (F0 m f.1 L1 f.2.2.1)) : W p l e R s m args below meth c H locs (h.2.2.1 - c0) (h.2.2.2 - n0) Q (F0 m pc L st) := by
  obtain ⟨hx, hb, hr, hml, hown, hts, hlk, hnm, htab, hfr, hlo⟩ := hF
  simp only [q_stepI, q_nx] at hs
  split at hs
  · rename_i y x st1
    split at hs
    · rename_i hlen
      subst hlen
      unfold q_br q_nx at hs
      split at hs
      · rename_i t ht
        unfold q_if at hs
        refine lv_icmp_gt hx hb hd (q_tgt_ok ht) (fun hc => ?_) (fun hc => ?_)
        · have e2 : q_cond .gt x y = true := decide_eq_true hc
          rw [e2] at hs
          cases hs
          exact kk H locs L hH hS hL
        · have e2 : q_cond .gt x y = false := decide_eq_false hc
          rw [e2] at hs
          cases hs
          exact kk H locs L hH hS hL
      · cases hs
    · cases hs
  · cases hs
theorem q_n_ifCond_le {off : Int} (hF : q_Fx p s m args meth c R M) (hG : q_G E D cid s0) (hY : q_Y s0 s) {len : Nat} (hd : decode M.2.1 pc = .ok (.ifCond .le off, len)) (hs : q_stepI E M (.ifCond .le off) len pc ls st h = some (.inl f)) (hbd : c0 ≤ h.2.2.1 ∧ n0 ≤ h.2.2.2 ∧ f.2.2.2.2.2.1 - c0 ≤ R.cells ∧ f.2.2.2.2.2.2 - n0 ≤ R.slots) (hH : q_hp D cid s0.heap.size h H) (hS : va_S (q_A s0) s.heap H locs) (hL : q_L L M.2.2.1 ls) (kk : ∀ (H1 : Heap) (locs1 : List Loc) (L1 : Array Slot), q_hp D cid s0.heap.size f.2.2.2 H1 → va_S (q_A s0) s.heap H1 locs1 → q_L L1 M.2.2.1 f.2.1 → W p l e R s m args below meth c H1 locs1 (f.2.2.2.2.2.1 - c0) (f.2.2.2.2.2.2 - n0) Q (F0 m f.1 L1 f.2.2.1)) : W p l e R s m args below meth c H locs (h.2.2.1 - c0) (h.2.2.2 - n0) Q (F0 m pc L st) := by
  obtain ⟨hx, hb, hr, hml, hown, hts, hlk, hnm, htab, hfr, hlo⟩ := hF
  simp only [q_stepI, q_nx] at hs
  split at hs
  · rename_i x st1
    split at hs
    · rename_i hlen
      subst hlen
      unfold q_br q_nx at hs
      split at hs
      · rename_i t ht
        unfold q_if at hs
        refine lv_if_le hx hb hd (q_tgt_ok ht) (fun hc => ?_) (fun hc => ?_)
        · have e2 : q_cond .le x 0 = true := decide_eq_true hc
          rw [e2] at hs
          cases hs
          exact kk H locs L hH hS hL
        · have e2 : q_cond .le x 0 = false := decide_eq_false hc
          rw [e2] at hs
          cases hs
          exact kk H locs L hH hS hL
      · cases hs
    · cases hs
  · cases hs
theorem q_n_if_icmp_le {off : Int} (hF : q_Fx p s m args meth c R M) (hG : q_G E D cid s0) (hY : q_Y s0 s) {len : Nat} (hd : decode M.2.1 pc = .ok (.if_icmp .le off, len)) (hs : q_stepI E M (.if_icmp .le off) len pc ls st h = some (.inl f)) (hbd : c0 ≤ h.2.2.1 ∧ n0 ≤ h.2.2.2 ∧ f.2.2.2.2.2.1 - c0 ≤ R.cells ∧ f.2.2.2.2.2.2 - n0 ≤ R.slots) (hH : q_hp D cid s0.heap.size h H) (hS : va_S (q_A s0) s.heap H locs) (hL : q_L L M.2.2.1 ls) (kk : ∀ (H1 : Heap) (locs1 : List Loc) (L1 : Array Slot), q_hp D cid s0.heap.size f.2.2.2 H1 → va_S (q_A s0) s.heap H1 locs1 → q_L L1 M.2.2.1 f.2.1 → W p l e R s m args below meth c H1 locs1 (f.2.2.2.2.2.1 - c0) (f.2.2.2.2.2.2 - n0) Q (F0 m f.1 L1 f.2.2.1)) : W p l e R s m args below meth c H locs (h.2.2.1 - c0) (h.2.2.2 - n0) Q (F0 m pc L st) := by
  obtain ⟨hx, hb, hr, hml, hown, hts, hlk, hnm, htab, hfr, hlo⟩ := hF
  simp only [q_stepI, q_nx] at hs
  split at hs
  · rename_i y x st1
    split at hs
    · rename_i hlen
      subst hlen
      unfold q_br q_nx at hs
      split at hs
      · rename_i t ht
        unfold q_if at hs
        refine lv_icmp_le hx hb hd (q_tgt_ok ht) (fun hc => ?_) (fun hc => ?_)
        · have e2 : q_cond .le x y = true := decide_eq_true hc
          rw [e2] at hs
          cases hs
          exact kk H locs L hH hS hL
        · have e2 : q_cond .le x y = false := decide_eq_false hc
          rw [e2] at hs
          cases hs
          exact kk H locs L hH hS hL
      · cases hs
    · cases hs
  · cases hs
theorem q_n_tableswitch {dflt lo hi : Int} {offs : Array Int} (hF : q_Fx p s m args meth c R M) (hG : q_G E D cid s0) (hY : q_Y s0 s) {len : Nat} (hd : decode M.2.1 pc = .ok (.tableswitch dflt lo hi offs, len)) (hs : q_stepI E M (.tableswitch dflt lo hi offs) len pc ls st h = some (.inl f)) (hbd : c0 ≤ h.2.2.1 ∧ n0 ≤ h.2.2.2 ∧ f.2.2.2.2.2.1 - c0 ≤ R.cells ∧ f.2.2.2.2.2.2 - n0 ≤ R.slots) (hH : q_hp D cid s0.heap.size h H) (hS : va_S (q_A s0) s.heap H locs) (hL : q_L L M.2.2.1 ls) (kk : ∀ (H1 : Heap) (locs1 : List Loc) (L1 : Array Slot), q_hp D cid s0.heap.size f.2.2.2 H1 → va_S (q_A s0) s.heap H1 locs1 → q_L L1 M.2.2.1 f.2.1 → W p l e R s m args below meth c H1 locs1 (f.2.2.2.2.2.1 - c0) (f.2.2.2.2.2.2 - n0) Q (F0 m f.1 L1 f.2.2.1)) : W p l e R s m args below meth c H locs (h.2.2.1 - c0) (h.2.2.2 - n0) Q (F0 m pc L st) := by
  obtain ⟨hx, hb, hr, hml, hown, hts, hlk, hnm, htab, hfr, hlo⟩ := hF
  simp only [q_stepI, q_nx] at hs
  split at hs
  · split at hs
    · rename_i hr2
      obtain ⟨t, ht, rfl⟩ := q_go_some hs
      exact lv_tableOut hx hb hd hr2 ht (kk H locs L hH hS hL)
    · rename_i hr2
      split at hs
      · rename_i off hoff
        obtain ⟨t, ht, rfl⟩ := q_go_some hs
        exact lv_tableIn hx hb hd (fun z => hr2 (Or.inl z)) (fun z => hr2 (Or.inr z)) hoff ht (kk H locs L hH hS hL)
      · cases hs
  · cases hs
end QN
end
section
/-! the abstract machine's instructions that look at the heap -/
section QM
variable {p : Program} {l : Launch} {e : Env} {R : Room} {s s0 : State} {m : MethodId} {args : Array Value} {below : List Frame} {meth : Method} {c : Code} {H : Heap} {locs : List Loc} {Q : State → Prop}
variable {E : q_E} {D : va_G} {cid : Nat → ClassId} {M : q_M} {pc : Nat} {ls st : List Value} {h : q_H} {L : Array Slot} {f : q_F} {c0 n0 : Nat}
theorem q_P1 {q : Nat × va_E} (h : va_at D q_cls q H) : va_P D q_cls [q] H := by
  intro k x hk
  cases k with
  | zero => cases hk; exact h
  | succ k => simp at hk
theorem q_uw {c : Nat} (hc : c < 10) (hts : ∀ w ∈ lw_tbl, goodWord w = true → w.before args s = true) : ∀ w ∈ u_ws (q_cnm c) (q_T c) (q_N c), w.before args s = true := by
  intro w hw
  refine hts w (q_ws_ok c hc w hw) ?_
  obtain ⟨k, -, rfl⟩ := List.mem_map.mp hw
  unfold u_lay
  split <;> rfl
theorem q_sbf : ∀ k, k < 4 → (q_T 8 k).2.2.2 = false := by decide +kernel
theorem q_ac : ∀ t, t < 5 → Cond.arrayClass (q_at t) ∈ lw_tbl := by decide +kernel
theorem q_inst : ∀ ci, ci < 10 → Cond.instantiable (q_cnm ci) (q_N ci) ∈ lw_tbl := by decide +kernel
theorem q_gf_some {a ci k : Nat} {v : Value} (hv : q_gf h a ci k = some v) : ∃ fs, h.1 a = some (.inr (ci, fs)) ∧ fs[k]? = some v := by
  unfold q_gf at hv
  split at hv
  · rename_i c1 fs hc
    split at hv
    · rename_i e1
      subst e1
      exact ⟨fs, hc, hv⟩
    · cases hv
  · cases hv
theorem q_pf_some {a ci k : Nat} {v : Value} {h' : q_H} (hv : q_pf h a ci k v = some h') : ∃ fs, h.1 a = some (.inr (ci, fs)) ∧ k < fs.length ∧ h' = q_up h a (.inr (ci, fs.set k v)) := by
  unfold q_pf at hv
  split at hv
  · rename_i c1 fs hc
    split at hv
    · rename_i e1
      obtain ⟨e1, e2⟩ := e1
      subst e1
      cases hv
      exact ⟨fs, hc, e2, rfl⟩
    · cases hv
  · cases hv
theorem q_sI_some {t a : Nat} {i x : Int32} {h' : q_H} (hv : q_sI h t a i x = some h') : ∃ n g, h.1 a = some (.inl (t, n, .inl g)) ∧ ¬ q_out i n ∧ h' = q_up h a (.inl (t, n, .inl (upd g i.toNatClampNeg x))) := by
  unfold q_sI at hv
  split at hv
  · rename_i t1 n g hc
    split at hv
    · rename_i e1
      obtain ⟨e1, e2⟩ := e1
      subst e1
      cases hv
      exact ⟨n, g, hc, e2, rfl⟩
    · cases hv
  · cases hv
theorem q_sL_some {a : Nat} {i : Int32} {x : Int64} {h' : q_H} (hv : q_sL h a i x = some h') : ∃ n g, h.1 a = some (.inl (1, n, .inr (.inl g))) ∧ ¬ q_out i n ∧ h' = q_up h a (.inl (1, n, .inr (.inl (vp_updL g i.toNatClampNeg x)))) := by
  unfold q_sL at hv
  split at hv
  · rename_i t1 n g hc
    split at hv
    · rename_i e1
      obtain ⟨e1, e2⟩ := e1
      subst e1
      cases hv
      exact ⟨n, g, hc, e2, rfl⟩
    · cases hv
  · cases hv
theorem q_sQ_some {a v : Nat} {i : Int32} {h' : q_H} (hv : q_sQ h a i v = some h') : ∃ t n g fs, h.1 a = some (.inl (t, n, .inr (.inr (.inr (.inr g))))) ∧ h.1 v = some (.inr (q_ec t, fs)) ∧ (5 ≤ t ∧ t ≤ 7) ∧ ¬ q_out i n ∧ h' = q_up h a (.inl (t, n, .inr (.inr (.inr (.inr (va_up g i.toNatClampNeg (some v))))))) := by
  unfold q_sQ at hv
  split at hv
  · rename_i t1 n g ci fs hc hc2
    split at hv
    · rename_i e1
      obtain ⟨e1, e2, e3⟩ := e1
      subst e2
      cases hv
      exact ⟨t1, n, g, fs, hc, hc2, e1, e3, rfl⟩
    · cases hv
  · cases hv
theorem q_cell {t n a : Nat} {z} (hH : q_hp D cid s0.heap.size h H) (ha : h.1 a = some (.inl (t, n, z))) : H[a]? = some (vp_cell (cid t) (n, z)) := (hH.2 a _ ha).2

theorem q_sx_some {a i : Nat} (hv : q_sx E a = some i) : i < 8 ∧ E.1 (6 + 2 * i) = some (.ref a) := by
  unfold q_sx at hv
  have h1 := List.find?_some hv
  have h2 := List.mem_of_find?_eq_some hv
  exact ⟨List.mem_range.mp h2, by simpa using h1⟩
theorem q_gE_some {a ci k : Nat} {v : Value} (hv : q_gE E h a ci k = some v) : (∃ fs, h.1 a = some (.inr (ci, fs)) ∧ fs[k]? = some v) ∨ (ci = 9 ∧ ∃ i, q_sx E a = some i ∧ ((k = 0 ∧ E.1 (7 + 2 * i) = some v) ∨ (k = 1 ∧ v = .int 0))) := by
  unfold q_gE at hv
  split at hv
  · rename_i c fs hc
    split at hv
    · rename_i e
      subst e
      exact Or.inl ⟨fs, hc, hv⟩
    · cases hv
  · split at hv
    · rename_i e
      refine Or.inr ⟨e, ?_⟩
      split at hv
      · rename_i i hi
        exact ⟨i, hi, Or.inl ⟨rfl, hv⟩⟩
      · rename_i i hi
        cases hv
        exact ⟨i, hi, Or.inr ⟨rfl, rfl⟩⟩
      · cases hv
    · cases hv
  · cases hv
theorem q_n_getfield {ix : Nat} (hF : q_Fx p s m args meth c R M) (hG : q_G E D cid s0) (hY : q_Y s0 s) {len : Nat} (hd : decode M.2.1 pc = .ok (.getfield ix, len)) (hs : q_stepI E M (.getfield ix) len pc ls st h = some (.inl f)) (hbd : c0 ≤ h.2.2.1 ∧ n0 ≤ h.2.2.2 ∧ f.2.2.2.2.2.1 - c0 ≤ R.cells ∧ f.2.2.2.2.2.2 - n0 ≤ R.slots) (hH : q_hp D cid s0.heap.size h H) (hS : va_S (q_A s0) s.heap H locs) (hL : q_L L M.2.2.1 ls) (kk : ∀ (H1 : Heap) (locs1 : List Loc) (L1 : Array Slot), q_hp D cid s0.heap.size f.2.2.2 H1 → va_S (q_A s0) s.heap H1 locs1 → q_L L1 M.2.2.1 f.2.1 → W p l e R s m args below meth c H1 locs1 (f.2.2.2.2.2.1 - c0) (f.2.2.2.2.2.2 - n0) Q (F0 m f.1 L1 f.2.2.1)) : W p l e R s m args below meth c H locs (h.2.2.1 - c0) (h.2.2.2 - n0) Q (F0 m pc L st) := by
  obtain ⟨hx, hb, hr, hml, hown, hts, hlk, hnm, htab, hfr, hlo⟩ := hF
  simp only [q_stepI, q_nx] at hs
  split at hs
  · rename_i ci k pos a st1 hq
    split at hs
    · rename_i v hv
      split at hs
      · rename_i hlen
        obtain ⟨hlen, ho⟩ := hlen
        subst hlen
        cases hs
        obtain ⟨w1, w2, w3, w4⟩ := q_fl_ok _ ho _ (q_lk_mem hq)
        dsimp only at w1 w2 w3 w4
        rcases q_gE_some hv with ⟨fs, h1, h2⟩ | ⟨rfl, i, hi, hk⟩
        · exact va_get hx hb (q_uw w2 hts) (fun w h => h) hown (q_K hG hY) (q_P1 (hH.2 a _ h1).2) 0 rfl (q_cls_ok _ w2) k w3 (q_word hts w1 rfl) (fun x h => h) h2 hd (kk H locs L hH hS hL)
        · obtain ⟨hi8, hia⟩ := q_sx_some hi
          obtain ⟨adK, adV, h1, h3⟩ := q_Sat hG hY
          obtain ⟨g1, g2, -⟩ := h1 i hi8
          rw [g1] at hia
          cases hia
          rcases hk with ⟨rfl, hk⟩ | ⟨rfl, rfl⟩
          · rw [g2] at hk
            cases hk
            exact vk_getf hx hb (h3.1 i hi8).2.2.1 hS hown (q_word hts w1 rfl) (fun x h => h) hd (kk H locs L hH hS hL)
          · exact vk_getf hx hb (h3.1 i hi8).2.1 hS hown (q_word hts w1 rfl) (fun x h => h) hd (kk H locs L hH hS hL)
      · cases hs
    · cases hs
  · cases hs
theorem q_n_putfield {ix : Nat} (hF : q_Fx p s m args meth c R M) (hG : q_G E D cid s0) (hY : q_Y s0 s) {len : Nat} (hd : decode M.2.1 pc = .ok (.putfield ix, len)) (hs : q_stepI E M (.putfield ix) len pc ls st h = some (.inl f)) (hbd : c0 ≤ h.2.2.1 ∧ n0 ≤ h.2.2.2 ∧ f.2.2.2.2.2.1 - c0 ≤ R.cells ∧ f.2.2.2.2.2.2 - n0 ≤ R.slots) (hH : q_hp D cid s0.heap.size h H) (hS : va_S (q_A s0) s.heap H locs) (hL : q_L L M.2.2.1 ls) (kk : ∀ (H1 : Heap) (locs1 : List Loc) (L1 : Array Slot), q_hp D cid s0.heap.size f.2.2.2 H1 → va_S (q_A s0) s.heap H1 locs1 → q_L L1 M.2.2.1 f.2.1 → W p l e R s m args below meth c H1 locs1 (f.2.2.2.2.2.1 - c0) (f.2.2.2.2.2.2 - n0) Q (F0 m f.1 L1 f.2.2.1)) : W p l e R s m args below meth c H locs (h.2.2.1 - c0) (h.2.2.2 - n0) Q (F0 m pc L st) := by
  obtain ⟨hx, hb, hr, hml, hown, hts, hlk, hnm, htab, hfr, hlo⟩ := hF
  simp only [q_stepI, q_nx] at hs
  split at hs
  · rename_i ci k pos v a st1 hq
    split at hs
    · rename_i h1 hv
      split at hs
      · rename_i hlen
        obtain ⟨⟨hlen, ho⟩, hna, hfi, hfn⟩ := hlen
        subst hlen
        cases hs
        obtain ⟨fs, h1, h2, rfl⟩ := q_pf_some hv
        obtain ⟨w1, w2, w3, w4⟩ := q_fl_ok _ ho _ (q_lk_mem hq)
        dsimp only at w1 w2 w3 w4
        have hK := q_K hG hY
        have hc := q_cls_ok ci w2
        have hlk2 := q_word (s := s) (args := args) hts w1 rfl
        have hap := va_apart (own := q_nm (q_own M)) (q_uw w2 hts) (fun w h => h) (q_ty ci) (q_ty_ok ci w2) (q_nm_ok ci w2) hK hc
        obtain ⟨hb0, r, h1r, cell, q1, q2, q3, q4⟩ := hH.2 a _ h1
        have hr9 : r = (q_cnm ci, q_T ci, q_N ci) := Option.some.inj (h1r.symm.trans hc)
        subst hr9
        obtain ⟨hSl, hfc, kC, hkC, hkind⟩ := hK.1 ci _ hc
        obtain ⟨cf, kf, fi, fd, hi, hsl⟩ := hSl k w3
        have hsame : s.fieldFound? (q_T ci k).1 (q_T ci k).2.1 (q_T ci k).2.2.1 = some (cf, kf, fi, fd) := hi
        have hst := (u_facts hfc hkC (u_lays (q_uw w2 hts) (fun w h => h) w3) hi).1
        have fin : ∀ (H1 : Heap), H1[a]? = some (cell.setSlot (D.2 ci k) v) → H1.size = H.size → (∀ q : Nat, q ≠ a → H1[q]? = H[q]?) → q_hp D cid s0.heap.size (q_up h a (.inr (ci, fs.set k v))) H1 := fun H1 e1 e2 e3 =>
          q_hp_put hH e2 hb0 e3 ⟨_, hc, t_OB.to (V := updV (vp_V fs) k v) ⟨_, e1, q2, q3, t_set q4 hap w3 v⟩ (fun j _ => vp_updV_set h2 v j)⟩
        have hlay := q_uw (c := ci) w2 hts _ (u_in_lay w3)
        unfold u_lay at hlay
        by_cases hf9 : (q_T ci k).2.2.2 = true
        · rw [if_pos hf9] at hlay
          have hcf : m.cls = cf := by
            obtain ⟨_, _, c', _, _, _, -, -, hf', -, -, -, hown2, -⟩ := Cond.laysFinal_spec hlay
            have e1 : c' = cf := by have := hi.symm.trans hf'; simp at this; exact this.1.symm
            have h8 : ¬ ci = 8 := fun e8 => by subst e8; rw [q_sbf k w3] at hf9; cases hf9
            rw [w4 h8, (hfn hf9).2] at hown2
            rw [← e1]; exact Option.some.inj (hown.symm.trans hown2)
          have h6 := u_fits hfc hkC hkind (Or.inr hlay) hi (q_ty_ok ci w2 k w3) hna hfi
          refine W.putFinK hx hb hown hlk2 hsame hst hcf (hnm (hfn hf9).1) (by rw [q2]; exact h6) q1 q3 (by rw [hsl]; exact k2_hasslot (q4 k w3)) rfl rfl hd fun H1 e1 e2 e3 => ?_
          rw [hsl] at e1
          exact kk H1 _ L (fin H1 e1 e2 e3) (hS.put e2 e3 hb0) hL
        · rw [if_neg hf9] at hlay
          have h6 := u_store hfc hkC hkind hlay hi (q_ty_ok ci w2 k w3) hna hfi
          refine W.putK hx hb (f := fd) ⟨hown, hlk2, ⟨_, _, _, hsame⟩, hst⟩ (by rw [q2]; exact h6) q1 q3 (by rw [hsl]; exact k2_hasslot (q4 k w3)) rfl rfl hd fun H1 e1 e2 e3 => ?_
          rw [hsl] at e1
          exact kk H1 _ L (fin H1 e1 e2 e3) (hS.put e2 e3 hb0) hL
      · cases hs
    · cases hs
  · cases hs
theorem q_gI_some {t a : Nat} {ty : FieldType} {i : Int32} {v : Value} (hv : q_gI E h t ty a i = some v) : (∃ n g, h.1 a = some (.inl (t, n, .inl g)) ∧ ¬ q_out i n ∧ v = .int (g i.toNatClampNeg)) ∨ (∃ n g, E.2 a = some (ty, n, g) ∧ ¬ q_out i n ∧ v = g i.toNatClampNeg) := by
  unfold q_gI at hv
  split at hv
  · rename_i t1 n g hc
    split at hv
    · rename_i e1
      obtain ⟨e1, e2⟩ := e1
      subst e1
      cases hv
      exact Or.inl ⟨n, g, hc, e2, rfl⟩
    · cases hv
  · split at hv
    · rename_i ty1 n g hc
      split at hv
      · rename_i e1
        obtain ⟨e1, e2⟩ := e1
        subst e1
        cases hv
        exact Or.inr ⟨n, g, hc, e2, rfl⟩
      · cases hv
    · cases hv
  · cases hv
theorem q_n_baload (hF : q_Fx p s m args meth c R M) (hG : q_G E D cid s0) (hY : q_Y s0 s) {len : Nat} (hd : decode M.2.1 pc = .ok (.baload, len)) (hs : q_stepI E M (.baload) len pc ls st h = some (.inl f)) (hbd : c0 ≤ h.2.2.1 ∧ n0 ≤ h.2.2.2 ∧ f.2.2.2.2.2.1 - c0 ≤ R.cells ∧ f.2.2.2.2.2.2 - n0 ≤ R.slots) (hH : q_hp D cid s0.heap.size h H) (hS : va_S (q_A s0) s.heap H locs) (hL : q_L L M.2.2.1 ls) (kk : ∀ (H1 : Heap) (locs1 : List Loc) (L1 : Array Slot), q_hp D cid s0.heap.size f.2.2.2 H1 → va_S (q_A s0) s.heap H1 locs1 → q_L L1 M.2.2.1 f.2.1 → W p l e R s m args below meth c H1 locs1 (f.2.2.2.2.2.1 - c0) (f.2.2.2.2.2.2 - n0) Q (F0 m f.1 L1 f.2.2.1)) : W p l e R s m args below meth c H locs (h.2.2.1 - c0) (h.2.2.2 - n0) Q (F0 m pc L st) := by
  obtain ⟨hx, hb, hr, hml, hown, hts, hlk, hnm, htab, hfr, hlo⟩ := hF
  simp only [q_stepI, q_nx] at hs
  split at hs
  · rename_i i a st1
    split at hs
    · rename_i v hv
      split at hs
      · rename_i hlen
        subst hlen
        cases hs
        unfold q_gB at hv
        split at hv
        · split at hv
          · rename_i n g hc
            split at hv
            · rename_i h2
              cases hv
              exact va_tb hx hb (q_Tat hG hY hc) hS h2 rfl hd (kk H locs L hH hS hL)
            · cases hv
          · cases hv
        · rename_i n g hc
          split at hv
          · rename_i h2
            cases hv
            exact va_bald hx hb (q_K hG hY) (q_P1 (hH.2 a _ hc).2) 0 4 rfl (q_tys_at cid 4 (by decide)) h2 hd (kk H locs L hH hS hL)
          · cases hv
        · rcases q_gI_some hv with ⟨n, g, h1, h2, rfl⟩ | ⟨n, g, h1, h2, rfl⟩
          · exact va_zald hx hb (q_K hG hY) (q_P1 (hH.2 a _ h1).2) 0 2 rfl (q_tys_at cid 2 (by decide)) h2 hd (kk H locs L hH hS hL)
          · exact va_tz hx hb (q_Tat hG hY h1) hS h2 rfl hd (kk H locs L hH hS hL)
      · cases hs
    · cases hs
  · cases hs
theorem q_n_iaload (hF : q_Fx p s m args meth c R M) (hG : q_G E D cid s0) (hY : q_Y s0 s) {len : Nat} (hd : decode M.2.1 pc = .ok (.iaload, len)) (hs : q_stepI E M (.iaload) len pc ls st h = some (.inl f)) (hbd : c0 ≤ h.2.2.1 ∧ n0 ≤ h.2.2.2 ∧ f.2.2.2.2.2.1 - c0 ≤ R.cells ∧ f.2.2.2.2.2.2 - n0 ≤ R.slots) (hH : q_hp D cid s0.heap.size h H) (hS : va_S (q_A s0) s.heap H locs) (hL : q_L L M.2.2.1 ls) (kk : ∀ (H1 : Heap) (locs1 : List Loc) (L1 : Array Slot), q_hp D cid s0.heap.size f.2.2.2 H1 → va_S (q_A s0) s.heap H1 locs1 → q_L L1 M.2.2.1 f.2.1 → W p l e R s m args below meth c H1 locs1 (f.2.2.2.2.2.1 - c0) (f.2.2.2.2.2.2 - n0) Q (F0 m f.1 L1 f.2.2.1)) : W p l e R s m args below meth c H locs (h.2.2.1 - c0) (h.2.2.2 - n0) Q (F0 m pc L st) := by
  obtain ⟨hx, hb, hr, hml, hown, hts, hlk, hnm, htab, hfr, hlo⟩ := hF
  simp only [q_stepI, q_nx] at hs
  split at hs
  · rename_i i a st1
    split at hs
    · rename_i v hv
      split at hs
      · rename_i hlen
        subst hlen
        cases hs
        rcases q_gI_some hv with ⟨n, g, h1, h2, rfl⟩ | ⟨n, g, h1, h2, rfl⟩
        · exact va_iald hx hb (q_K hG hY) (q_P1 (hH.2 a _ h1).2) 0 0 rfl (q_tys_at cid 0 (by decide)) h2 hd (kk H locs L hH hS hL)
        · exact va_ti hx hb (q_Tat hG hY h1) hS h2 rfl hd (kk H locs L hH hS hL)
      · cases hs
    · cases hs
  · cases hs
theorem q_n_caload (hF : q_Fx p s m args meth c R M) (hG : q_G E D cid s0) (hY : q_Y s0 s) {len : Nat} (hd : decode M.2.1 pc = .ok (.caload, len)) (hs : q_stepI E M (.caload) len pc ls st h = some (.inl f)) (hbd : c0 ≤ h.2.2.1 ∧ n0 ≤ h.2.2.2 ∧ f.2.2.2.2.2.1 - c0 ≤ R.cells ∧ f.2.2.2.2.2.2 - n0 ≤ R.slots) (hH : q_hp D cid s0.heap.size h H) (hS : va_S (q_A s0) s.heap H locs) (hL : q_L L M.2.2.1 ls) (kk : ∀ (H1 : Heap) (locs1 : List Loc) (L1 : Array Slot), q_hp D cid s0.heap.size f.2.2.2 H1 → va_S (q_A s0) s.heap H1 locs1 → q_L L1 M.2.2.1 f.2.1 → W p l e R s m args below meth c H1 locs1 (f.2.2.2.2.2.1 - c0) (f.2.2.2.2.2.2 - n0) Q (F0 m f.1 L1 f.2.2.1)) : W p l e R s m args below meth c H locs (h.2.2.1 - c0) (h.2.2.2 - n0) Q (F0 m pc L st) := by
  obtain ⟨hx, hb, hr, hml, hown, hts, hlk, hnm, htab, hfr, hlo⟩ := hF
  simp only [q_stepI, q_nx] at hs
  split at hs
  · rename_i i a st1
    split at hs
    · rename_i v hv
      split at hs
      · rename_i hlen
        subst hlen
        cases hs
        rcases q_gI_some hv with ⟨n, g, h1, h2, rfl⟩ | ⟨n, g, h1, h2, rfl⟩
        · exact va_cald hx hb (q_K hG hY) (q_P1 (hH.2 a _ h1).2) 0 3 rfl (q_tys_at cid 3 (by decide)) h2 hd (kk H locs L hH hS hL)
        · exact va_tc hx hb (q_Tat hG hY h1) hS h2 rfl hd (kk H locs L hH hS hL)
      · cases hs
    · cases hs
  · cases hs
theorem q_n_laload (hF : q_Fx p s m args meth c R M) (hG : q_G E D cid s0) (hY : q_Y s0 s) {len : Nat} (hd : decode M.2.1 pc = .ok (.laload, len)) (hs : q_stepI E M (.laload) len pc ls st h = some (.inl f)) (hbd : c0 ≤ h.2.2.1 ∧ n0 ≤ h.2.2.2 ∧ f.2.2.2.2.2.1 - c0 ≤ R.cells ∧ f.2.2.2.2.2.2 - n0 ≤ R.slots) (hH : q_hp D cid s0.heap.size h H) (hS : va_S (q_A s0) s.heap H locs) (hL : q_L L M.2.2.1 ls) (kk : ∀ (H1 : Heap) (locs1 : List Loc) (L1 : Array Slot), q_hp D cid s0.heap.size f.2.2.2 H1 → va_S (q_A s0) s.heap H1 locs1 → q_L L1 M.2.2.1 f.2.1 → W p l e R s m args below meth c H1 locs1 (f.2.2.2.2.2.1 - c0) (f.2.2.2.2.2.2 - n0) Q (F0 m f.1 L1 f.2.2.1)) : W p l e R s m args below meth c H locs (h.2.2.1 - c0) (h.2.2.2 - n0) Q (F0 m pc L st) := by
  obtain ⟨hx, hb, hr, hml, hown, hts, hlk, hnm, htab, hfr, hlo⟩ := hF
  simp only [q_stepI, q_nx] at hs
  split at hs
  · rename_i i a st1
    split at hs
    · rename_i v hv
      split at hs
      · rename_i hlen
        subst hlen
        cases hs
        unfold q_gL at hv
        split at hv
        · rename_i t1 n g hc
          split at hv
          · rename_i e1
            obtain ⟨e1, e2⟩ := e1
            subst e1
            cases hv
            exact va_lald hx hb (q_K hG hY) (q_P1 (hH.2 a _ hc).2) 0 1 rfl (q_tys_at cid 1 (by decide)) e2 hd (kk H locs L hH hS hL)
          · cases hv
        · cases hv
      · cases hs
    · cases hs
  · cases hs
theorem q_n_aaload (hF : q_Fx p s m args meth c R M) (hG : q_G E D cid s0) (hY : q_Y s0 s) {len : Nat} (hd : decode M.2.1 pc = .ok (.aaload, len)) (hs : q_stepI E M (.aaload) len pc ls st h = some (.inl f)) (hbd : c0 ≤ h.2.2.1 ∧ n0 ≤ h.2.2.2 ∧ f.2.2.2.2.2.1 - c0 ≤ R.cells ∧ f.2.2.2.2.2.2 - n0 ≤ R.slots) (hH : q_hp D cid s0.heap.size h H) (hS : va_S (q_A s0) s.heap H locs) (hL : q_L L M.2.2.1 ls) (kk : ∀ (H1 : Heap) (locs1 : List Loc) (L1 : Array Slot), q_hp D cid s0.heap.size f.2.2.2 H1 → va_S (q_A s0) s.heap H1 locs1 → q_L L1 M.2.2.1 f.2.1 → W p l e R s m args below meth c H1 locs1 (f.2.2.2.2.2.1 - c0) (f.2.2.2.2.2.2 - n0) Q (F0 m f.1 L1 f.2.2.1)) : W p l e R s m args below meth c H locs (h.2.2.1 - c0) (h.2.2.2 - n0) Q (F0 m pc L st) := by
  obtain ⟨hx, hb, hr, hml, hown, hts, hlk, hnm, htab, hfr, hlo⟩ := hF
  simp only [q_stepI, q_nx] at hs
  split at hs
  · rename_i i a st1
    split at hs
    · rename_i v hv
      split at hs
      · rename_i hlen
        subst hlen
        cases hs
        unfold q_gQ at hv
        split at hv
        · rename_i t n g hc
          split at hv
          · rename_i e1
            obtain ⟨⟨e0, e1⟩, e2⟩ := e1
            cases hv
            have hc2 : H[a]? = some (arrV (cid t) n (fun j => va_rf (g j))) := q_cell hH hc
            have hlt : i.toNatClampNeg < n := Nat.not_le.mp fun q => e2 (Or.inr q)
            refine W.aald (v := va_rf (g i.toNatClampNeg)) (ty := q_at t) hx hb hc2 (((q_K hG hY).2 t _ (q_tys_at cid t (Nat.lt_succ_of_le e1))).1 n (fun j => va_rf (g j))) ?_ (fun q => by cases q) (by rw [arrV_size]; exact e2) (by rw [arrV_read _ _ hlt]) rfl rfl hd (kk H locs L hH hS hL)
            match t, e0, e1 with
            | 5, _, _ => rfl
            | 6, _, _ => rfl
            | 7, _, _ => rfl
            | 8, _, _ => rfl
          · cases hv
        · cases hv
      · cases hs
    · cases hs
  · cases hs
theorem q_n_iastore (hF : q_Fx p s m args meth c R M) (hG : q_G E D cid s0) (hY : q_Y s0 s) {len : Nat} (hd : decode M.2.1 pc = .ok (.iastore, len)) (hs : q_stepI E M (.iastore) len pc ls st h = some (.inl f)) (hbd : c0 ≤ h.2.2.1 ∧ n0 ≤ h.2.2.2 ∧ f.2.2.2.2.2.1 - c0 ≤ R.cells ∧ f.2.2.2.2.2.2 - n0 ≤ R.slots) (hH : q_hp D cid s0.heap.size h H) (hS : va_S (q_A s0) s.heap H locs) (hL : q_L L M.2.2.1 ls) (kk : ∀ (H1 : Heap) (locs1 : List Loc) (L1 : Array Slot), q_hp D cid s0.heap.size f.2.2.2 H1 → va_S (q_A s0) s.heap H1 locs1 → q_L L1 M.2.2.1 f.2.1 → W p l e R s m args below meth c H1 locs1 (f.2.2.2.2.2.1 - c0) (f.2.2.2.2.2.2 - n0) Q (F0 m f.1 L1 f.2.2.1)) : W p l e R s m args below meth c H locs (h.2.2.1 - c0) (h.2.2.2 - n0) Q (F0 m pc L st) := by
  obtain ⟨hx, hb, hr, hml, hown, hts, hlk, hnm, htab, hfr, hlo⟩ := hF
  simp only [q_stepI, q_nx] at hs
  split at hs
  · rename_i x i a st1
    split at hs
    · rename_i h1 hv
      split at hs
      · rename_i hlen
        subst hlen
        cases hs
        obtain ⟨n, g, h1, h2, rfl⟩ := q_sI_some hv
        have hc := q_cell hH h1
        refine W.iast hx hb hc (((q_K hG hY).2 0 _ (q_tys_at cid 0 (by decide))).1 n (fun j => .int (g j))) (fun q => by cases q) (by show ¬ (i < 0 ∨ (arrV _ _ _).slots.size ≤ _); rw [arrV_size]; exact h2) rfl rfl hd fun H1 e1 e2 e3 => ?_
        refine kk H1 _ L (q_hp_put hH e2 (hH.2 a _ h1).1 e3 ?_) (hS.put e2 e3 (hH.2 a _ h1).1) hL
        show H1[a]? = some (vp_cell _ _)
        rw [e1]
        rw [vp_cell_i, vp_cell_i, arrV_store]
        congr 2
        funext q
        by_cases hq : q = i.toNatClampNeg
        · subst hq
          simp [updV, upd]
        · simp [updV, upd, hq]
      · cases hs
    · cases hs
  · cases hs
theorem q_n_lastore (hF : q_Fx p s m args meth c R M) (hG : q_G E D cid s0) (hY : q_Y s0 s) {len : Nat} (hd : decode M.2.1 pc = .ok (.lastore, len)) (hs : q_stepI E M (.lastore) len pc ls st h = some (.inl f)) (hbd : c0 ≤ h.2.2.1 ∧ n0 ≤ h.2.2.2 ∧ f.2.2.2.2.2.1 - c0 ≤ R.cells ∧ f.2.2.2.2.2.2 - n0 ≤ R.slots) (hH : q_hp D cid s0.heap.size h H) (hS : va_S (q_A s0) s.heap H locs) (hL : q_L L M.2.2.1 ls) (kk : ∀ (H1 : Heap) (locs1 : List Loc) (L1 : Array Slot), q_hp D cid s0.heap.size f.2.2.2 H1 → va_S (q_A s0) s.heap H1 locs1 → q_L L1 M.2.2.1 f.2.1 → W p l e R s m args below meth c H1 locs1 (f.2.2.2.2.2.1 - c0) (f.2.2.2.2.2.2 - n0) Q (F0 m f.1 L1 f.2.2.1)) : W p l e R s m args below meth c H locs (h.2.2.1 - c0) (h.2.2.2 - n0) Q (F0 m pc L st) := by
  obtain ⟨hx, hb, hr, hml, hown, hts, hlk, hnm, htab, hfr, hlo⟩ := hF
  simp only [q_stepI, q_nx] at hs
  split at hs
  · rename_i x i a st1
    split at hs
    · rename_i h1 hv
      split at hs
      · rename_i hlen
        subst hlen
        cases hs
        obtain ⟨n, g, h1, h2, rfl⟩ := q_sL_some hv
        have hc := q_cell hH h1
        refine W.last hx hb hc (((q_K hG hY).2 1 _ (q_tys_at cid 1 (by decide))).1 n (fun j => .long (g j))) (fun q => by cases q) (by show ¬ (i < 0 ∨ (arrV _ _ _).slots.size ≤ _); rw [arrV_size]; exact h2) rfl rfl hd fun H1 e1 e2 e3 => ?_
        refine kk H1 _ L (q_hp_put hH e2 (hH.2 a _ h1).1 e3 ?_) (hS.put e2 e3 (hH.2 a _ h1).1) hL
        show H1[a]? = some (vp_cell _ _)
        rw [e1]
        rw [vp_cell_l, vp_cell_l, arrV_store]
        congr 2
        funext q
        by_cases hq : q = i.toNatClampNeg
        · subst hq
          simp [updV, vp_updL]
        · simp [updV, vp_updL, hq]
      · cases hs
    · cases hs
  · cases hs
theorem q_n_bastore (hF : q_Fx p s m args meth c R M) (hG : q_G E D cid s0) (hY : q_Y s0 s) {len : Nat} (hd : decode M.2.1 pc = .ok (.bastore, len)) (hs : q_stepI E M (.bastore) len pc ls st h = some (.inl f)) (hbd : c0 ≤ h.2.2.1 ∧ n0 ≤ h.2.2.2 ∧ f.2.2.2.2.2.1 - c0 ≤ R.cells ∧ f.2.2.2.2.2.2 - n0 ≤ R.slots) (hH : q_hp D cid s0.heap.size h H) (hS : va_S (q_A s0) s.heap H locs) (hL : q_L L M.2.2.1 ls) (kk : ∀ (H1 : Heap) (locs1 : List Loc) (L1 : Array Slot), q_hp D cid s0.heap.size f.2.2.2 H1 → va_S (q_A s0) s.heap H1 locs1 → q_L L1 M.2.2.1 f.2.1 → W p l e R s m args below meth c H1 locs1 (f.2.2.2.2.2.1 - c0) (f.2.2.2.2.2.2 - n0) Q (F0 m f.1 L1 f.2.2.1)) : W p l e R s m args below meth c H locs (h.2.2.1 - c0) (h.2.2.2 - n0) Q (F0 m pc L st) := by
  obtain ⟨hx, hb, hr, hml, hown, hts, hlk, hnm, htab, hfr, hlo⟩ := hF
  simp only [q_stepI, q_nx] at hs
  split at hs
  · rename_i x i a st1
    split at hs
    · rename_i h1 hv
      split at hs
      · rename_i hlen
        subst hlen
        cases hs
        obtain ⟨n, g, h1, h2, rfl⟩ := q_sI_some hv
        have hc := q_cell hH h1
        refine W.zast hx hb hc (((q_K hG hY).2 2 _ (q_tys_at cid 2 (by decide))).1 n (fun j => .int (g j))) (fun q => by cases q) (by show ¬ (i < 0 ∨ (arrV _ _ _).slots.size ≤ _); rw [arrV_size]; exact h2) rfl rfl hd fun H1 e1 e2 e3 => ?_
        refine kk H1 _ L (q_hp_put hH e2 (hH.2 a _ h1).1 e3 ?_) (hS.put e2 e3 (hH.2 a _ h1).1) hL
        show H1[a]? = some (vp_cell _ _)
        rw [e1]
        rw [vp_cell_i, vp_cell_i, arrV_store]
        congr 2
        funext q
        by_cases hq : q = i.toNatClampNeg
        · subst hq
          simp [updV, upd, narrow, vp_nar]
        · simp [updV, upd, hq]
      · cases hs
    · cases hs
  · cases hs
theorem q_n_castore (hF : q_Fx p s m args meth c R M) (hG : q_G E D cid s0) (hY : q_Y s0 s) {len : Nat} (hd : decode M.2.1 pc = .ok (.castore, len)) (hs : q_stepI E M (.castore) len pc ls st h = some (.inl f)) (hbd : c0 ≤ h.2.2.1 ∧ n0 ≤ h.2.2.2 ∧ f.2.2.2.2.2.1 - c0 ≤ R.cells ∧ f.2.2.2.2.2.2 - n0 ≤ R.slots) (hH : q_hp D cid s0.heap.size h H) (hS : va_S (q_A s0) s.heap H locs) (hL : q_L L M.2.2.1 ls) (kk : ∀ (H1 : Heap) (locs1 : List Loc) (L1 : Array Slot), q_hp D cid s0.heap.size f.2.2.2 H1 → va_S (q_A s0) s.heap H1 locs1 → q_L L1 M.2.2.1 f.2.1 → W p l e R s m args below meth c H1 locs1 (f.2.2.2.2.2.1 - c0) (f.2.2.2.2.2.2 - n0) Q (F0 m f.1 L1 f.2.2.1)) : W p l e R s m args below meth c H locs (h.2.2.1 - c0) (h.2.2.2 - n0) Q (F0 m pc L st) := by
  obtain ⟨hx, hb, hr, hml, hown, hts, hlk, hnm, htab, hfr, hlo⟩ := hF
  simp only [q_stepI, q_nx] at hs
  split at hs
  · rename_i x i a st1
    split at hs
    · rename_i h1 hv
      split at hs
      · rename_i hlen
        subst hlen
        cases hs
        obtain ⟨n, g, h1, h2, rfl⟩ := q_sI_some hv
        have hc := q_cell hH h1
        refine W.cast hx hb hc (((q_K hG hY).2 3 _ (q_tys_at cid 3 (by decide))).1 n (fun j => .int (g j))) (fun q => by cases q) (by show ¬ (i < 0 ∨ (arrV _ _ _).slots.size ≤ _); rw [arrV_size]; exact h2) rfl rfl hd fun H1 e1 e2 e3 => ?_
        refine kk H1 _ L (q_hp_put hH e2 (hH.2 a _ h1).1 e3 ?_) (hS.put e2 e3 (hH.2 a _ h1).1) hL
        show H1[a]? = some (vp_cell _ _)
        rw [e1]
        rw [vp_cell_i, vp_cell_i, arrV_store]
        congr 2
        funext q
        by_cases hq : q = i.toNatClampNeg
        · subst hq
          simp [updV, upd, narrow, vp_nar]
        · simp [updV, upd, hq]
      · cases hs
    · cases hs
  · cases hs
theorem q_n_arraylength (hF : q_Fx p s m args meth c R M) (hG : q_G E D cid s0) (hY : q_Y s0 s) {len : Nat} (hd : decode M.2.1 pc = .ok (.arraylength, len)) (hs : q_stepI E M (.arraylength) len pc ls st h = some (.inl f)) (hbd : c0 ≤ h.2.2.1 ∧ n0 ≤ h.2.2.2 ∧ f.2.2.2.2.2.1 - c0 ≤ R.cells ∧ f.2.2.2.2.2.2 - n0 ≤ R.slots) (hH : q_hp D cid s0.heap.size h H) (hS : va_S (q_A s0) s.heap H locs) (hL : q_L L M.2.2.1 ls) (kk : ∀ (H1 : Heap) (locs1 : List Loc) (L1 : Array Slot), q_hp D cid s0.heap.size f.2.2.2 H1 → va_S (q_A s0) s.heap H1 locs1 → q_L L1 M.2.2.1 f.2.1 → W p l e R s m args below meth c H1 locs1 (f.2.2.2.2.2.1 - c0) (f.2.2.2.2.2.2 - n0) Q (F0 m f.1 L1 f.2.2.1)) : W p l e R s m args below meth c H locs (h.2.2.1 - c0) (h.2.2.2 - n0) Q (F0 m pc L st) := by
  obtain ⟨hx, hb, hr, hml, hown, hts, hlk, hnm, htab, hfr, hlo⟩ := hF
  simp only [q_stepI, q_nx] at hs
  split at hs
  · rename_i a st1
    split at hs
    · rename_i n hv
      split at hs
      · rename_i hlen
        subst hlen
        cases hs
        unfold q_len at hv
        split at hv
        · rename_i t n1 z hc
          split at hv
          · rename_i ht
            cases hv
            exact va_alen hx hb (q_K hG hY) (q_P1 (hH.2 a _ hc).2) 0 t rfl (q_tys_at cid t (Nat.lt_succ_of_le ht)) rfl hd (kk H locs L hH hS hL)
          · cases hv
        · split at hv
          · rename_i ty n1 g hc
            cases hv
            exact va_tlen hx hb (q_Tat hG hY hc) hS rfl hd (kk H locs L hH hS hL)
          · cases hv
        · cases hv
      · cases hs
    · cases hs
  · cases hs
theorem q_cl1_some {a n : Nat} {g : Nat → Int32} (hv : q_cl1 h a = some (n, g)) : h.1 a = some (.inl (4, n, .inl g)) := by
  unfold q_cl1 at hv
  split at hv
  · rename_i n1 g1 hc
    cases hv
    exact hc
  · cases hv
theorem q_fcB (hG : q_G E D cid s0) (hY : q_Y s0 s) : s.vm.findClass "[B" = some (cid 4) := by
  have h6 := ((q_K hG hY).2 4 _ (q_tys_at cid 4 (by decide))).2
  have h7 : s.vm.findClass ("[" ++ FieldType.byte.toString) = some (cid 4) := h6
  have e : ("[" ++ FieldType.byte.toString) = "[B" := by decide
  rw [e] at h7
  exact h7
theorem q_n_checkcast {ix : Nat} (hF : q_Fx p s m args meth c R M) (hG : q_G E D cid s0) (hY : q_Y s0 s) {len : Nat} (hd : decode M.2.1 pc = .ok (.checkcast ix, len)) (hs : q_stepI E M (.checkcast ix) len pc ls st h = some (.inl f)) (hbd : c0 ≤ h.2.2.1 ∧ n0 ≤ h.2.2.2 ∧ f.2.2.2.2.2.1 - c0 ≤ R.cells ∧ f.2.2.2.2.2.2 - n0 ≤ R.slots) (hH : q_hp D cid s0.heap.size h H) (hS : va_S (q_A s0) s.heap H locs) (hL : q_L L M.2.2.1 ls) (kk : ∀ (H1 : Heap) (locs1 : List Loc) (L1 : Array Slot), q_hp D cid s0.heap.size f.2.2.2 H1 → va_S (q_A s0) s.heap H1 locs1 → q_L L1 M.2.2.1 f.2.1 → W p l e R s m args below meth c H1 locs1 (f.2.2.2.2.2.1 - c0) (f.2.2.2.2.2.2 - n0) Q (F0 m f.1 L1 f.2.2.1)) : W p l e R s m args below meth c H locs (h.2.2.1 - c0) (h.2.2.2 - n0) Q (F0 m pc L st) := by
  obtain ⟨hx, hb, hr, hml, hown, hts, hlk, hnm, htab, hfr, hlo⟩ := hF
  simp only [q_stepI, q_nx] at hs
  split at hs
  · rename_i a st1 pos hq
    split at hs
    · rename_i n g hv
      split at hs
      · rename_i hlen
        obtain ⟨hlen, ho⟩ := hlen
        subst hlen
        cases hs
        exact va_castA hx hb hown (q_word hts (q_ckc_ok _ ho _ (q_lk_mem hq)) rfl) (q_P1 (hH.2 a _ (q_cl1_some hv)).2) 0 rfl (q_fcB hG hY) hd (kk H locs L hH hS hL)
      · cases hs
    · cases hs
  · cases hs
end QM
end
section
/-! the abstract machine's instructions that make things, copy them, read statics -/
theorem q_stf_ok : ∀ o, o < 17 → ∀ x ∈ q_stf o, x.2.1 < 6 ∧ (lw_tbl[x.2.2]? = some (.fieldLink (q_nm o) x.1 (q_sc x.2.1).1 (q_sc x.2.1).2.1 (q_sc x.2.1).2.2) ∨ lw_tbl[x.2.2]? = some (.fieldLinkNest (q_nm o) x.1 (q_sc x.2.1).1 (q_sc x.2.1).2.1 (q_sc x.2.1).2.2 "RobotAisles")) := by decide +kernel
theorem q_sys : Cond.native arraycopyName ∈ lw_tbl ∧ Cond.static arraycopyName ∈ lw_tbl ∧ Cond.initialized "java/lang/System" ∈ lw_tbl ∧ Cond.instanceMethod objectInit ∈ lw_tbl ∧ Cond.code objectInit ⟨#[0xb1]⟩ 1 none ∈ lw_tbl := by decide +kernel
theorem q_anw_ok : ∀ o, o < 10 → ∀ x ∈ q_anw o, lw_tbl[x.2.2.1]? = some (.classLink (q_nm o) x.1 (q_cnm (q_ec x.2.1))) ∧ 5 ≤ x.2.1 ∧ x.2.1 < 8 := by decide +kernel
theorem vr_outer (c : ClassId) (N h0 : Nat) : ∀ i : Nat, Jvm.Free.Multi.outerC c N h0 i = arrV c N (fun j => va_rf (if j < i then some (h0 + 1 + j) else none))
  | 0 => by
    show ({ cls := c, slots := Array.replicate N .null, vm := .none } : Cell) = _
    rw [arrV_new]
    refine congrArg (arrV c N) (funext fun j => ?_)
    simp [va_rf]
  | i + 1 => by
    show (Jvm.Free.Multi.outerC c N h0 i).setSlot i (.ref (h0 + 1 + i)) = _
    rw [vr_outer c N h0 i, arrV_store]
    refine congrArg (arrV c N) (funext fun j => ?_)
    by_cases e : j = i
    · subst e
      simp [updV, va_rf]
    · by_cases h : j < i
      · simp [updV, e, h, Nat.lt_succ_of_lt h]
      · simp [updV, e, h, show ¬ j < i + 1 by omega]
theorem q_mna_ok : ∀ o, o < 10 → ∀ x ∈ q_mna o, lw_tbl[x.2.1]? = some (.classLink (q_nm o) x.1 "[[I") := by decide +kernel
section QP
variable {p : Program} {l : Launch} {e : Env} {R : Room} {s s0 : State} {m : MethodId} {args : Array Value} {below : List Frame} {meth : Method} {c : Code} {H : Heap} {locs : List Loc} {Q : State → Prop} {cells slots : Nat} {rest : List Value}
variable {E : q_E} {D : va_G} {cid : Nat → ClassId} {M : q_M} {pc : Nat} {ls st : List Value} {h : q_H} {L : Array Slot} {f : q_F} {c0 n0 : Nat}
theorem q_copyW {cc : ByteArray} (hx : p.tables.exec = Jvm.exec) (hb : c.code = cc) (hml : c.maxLocals = L.size) {own : String} {index : Nat} (hown : s.vm.findClass own = some m.cls) (hlink : (Cond.methodLink own index arraycopyName).before args s = true) (hnat : (Cond.native arraycopyName).before args s = true) (hstat : (Cond.static arraycopyName).before args s = true) (hini : (Cond.initialized "java/lang/System").before args s = true)
    {a0 a : Nat} {cs cd : Cell} {ty : FieldType} (hs : H[a0]? = some cs) (hd : H[a]? = some cd) (hos : s.isArrayOf cs ty) (hod : s.isArrayOf cd ty) (hsk : cs.vm ≠ .unknown) (hdk : cd.vm ≠ .unknown) (hprim : refKind ty = false)
    {sp dp n : Int32} (h1 : ¬ sp < 0) (h2 : ¬ dp < 0) (h3 : ¬ n < 0) (h4 : sp.toNatClampNeg + n.toNatClampNeg ≤ cs.slots.size) (h5 : dp.toNatClampNeg + n.toNatClampNeg ≤ cd.slots.size)
    (hvals : ∀ i, i < n.toNatClampNeg → fits ty (cs.slots.getD (sp.toNatClampNeg + i) .null) = true ∧ ∀ (T : State) (k : ClassId), T.takes k (cs.slots.getD (sp.toNatClampNeg + i) .null))
    (hframes : 1 ≤ R.frames) (hlocals : (rest.map fun v => v.category).sum + (nativeFrameWords "java/lang/System" "arraycopy" 5 + 11) ≤ R.locals) (hdg : decode cc pc = .ok (.invokestatic index, 3))
    (kk : ∀ (H1 : Heap) (locs1 : List Loc), H1[a]? = some (copied cs cd sp dp n) → H1.size = H.size → (∀ q : Nat, q ≠ a → H1[q]? = H[q]?) → (∀ z ∈ locs1, z ∈ locs ∨ z.base = a) → W p l e R s m args below meth c H1 locs1 cells slots Q (F0 m (pc + 3) L rest)) :
    W p l e R s m args below meth c H locs cells slots Q (F0 m pc L (.int n :: .int dp :: .ref a :: .int sp :: .ref a0 :: rest)) := by
  have nn : ∀ z : Int32, ¬ z < 0 → z.toInt = (z.toNatClampNeg : Int) := by
    intro z hz
    have hz0 : (0 : Int) ≤ z.toInt := by
      have := Int32.not_lt.mp hz
      simpa using Int32.le_iff_toInt_le.mp this
    show z.toInt = ((z.toInt.toNat : Nat) : Int)
    omega
  intro T hT X
  obtain ⟨hoc, k0, hk0, cm0, hkk0⟩ := hos
  obtain ⟨hod2, k1, hk1, cm1, hkk1⟩ := hod
  obtain ⟨vm', X', step⟩ := X.arraycopy hx hown hlink hnat hstat hini (src := a0) (dst := a) (cs := cs) (cd := cd) (srcPos := sp) (destPos := dp) (n := n) (by rw [hT]; exact hs) (by rw [hT]; exact hd)
    hoc hod2 hsk hdk hk0 hk1 hkk0 hkk1 (by simp [hprim]) h1 h2 h3
    (by rw [nn sp h1, nn n h3]; omega) (by rw [nn dp h2, nn n h3]; omega)
    (fun vm₁ _ i hi => ⟨(hvals i hi).1, (hvals i hi).2 _ _⟩)
    (g := F0 m pc L (.int n :: .int dp :: .ref a :: .int sp :: .ref a0 :: rest)) rfl (by rw [hml]) (rest := rest) rfl (by rw [hb]; exact hdg) hframes (by show 2 * 0 + _ + _ ≤ _; omega)
  have hl : a < H.size := (Array.getElem?_eq_some_iff.mp hd).1
  obtain ⟨t, b1, b2⟩ := kk ((T.setVm vm').setCell a (copied cs cd sp dp n)).heap _ (by
      show (T.heap.setIfInBounds a _)[a]? = _
      rw [hT, Array.getElem?_setIfInBounds_self_of_lt hl]) (by
      show (T.heap.setIfInBounds a _).size = _
      rw [hT]; simp) (fun q hq => by
      show (T.heap.setIfInBounds a _)[q]? = _
      rw [hT, Array.getElem?_setIfInBounds_ne (Ne.symm hq)]) (fun z hz => by
      rcases List.mem_append.mp hz with h | h
      · exact Or.inl h
      · obtain ⟨q, -, rfl⟩ := List.mem_map.mp h
        exact Or.inr rfl) _ rfl X'
  exact ⟨t, step t b1, b2⟩
theorem q_S_at {a : Nat} {H1 : Heap} {locs1 : List Loc} (hS : va_S (q_A s0) s.heap H locs) (hz : H1.size = H.size) (ho : ∀ q : Nat, q ≠ a → H1[q]? = H[q]?) (ha : s0.heap.size ≤ a) (hl : ∀ z ∈ locs1, z ∈ locs ∨ z.base = a) : va_S (q_A s0) s.heap H1 locs1 :=
  ⟨by rw [hz]; exact hS.1, fun q h1 h2 => by rw [ho q (fun e => h2 (by rw [e]; exact ha))]; exact hS.2.1 q h1 h2, fun z hz2 => by
    rcases hl z hz2 with h | h
    · exact hS.2.2 z h
    · rw [h]; exact ha⟩
theorem q_S_new {H1 : Heap} (hS : va_S (q_A s0) s.heap H locs) (hz : H1.size = H.size + 1) (ho : ∀ q : Nat, q < H.size → H1[q]? = H[q]?) : va_S (q_A s0) s.heap H1 locs :=
  ⟨by rw [hz]; exact Nat.le_succ_of_le hS.1, fun q h1 h2 => by rw [ho q (Nat.lt_of_lt_of_le h1 hS.1)]; exact hS.2.1 q h1 h2, hS.2.2⟩
theorem q_AOA (hG : q_G E D cid s0) (hY : q_Y s0 s) : (Cond.arrayOver (.array .int)).before args s = true := by
  have h := hG.2.2.2.2.2.2.1
  have hvm := hY.1.alike
  obtain ⟨comp, c, k, h1, h2, h3, h4, h5⟩ := arrayOverA_spec h
  obtain ⟨k', hk', he⟩ := hvm.2.2 _ _ h3
  have hi : (s.vm.classes.findIdx? fun (x : Class) => match x.kind with | .array component _ => component == comp | _ => false) = some c := by
    have e1 := va_idx_bare s.vm comp
    have e2 := va_idx_bare s0.vm comp
    have e3 : s0.vm.bare = s.vm.bare := by first | exact hvm.bare_eq | exact hvm.bare_eq.symm
    rw [e3] at e2
    exact e1.symm.trans (e2.trans h2)
  have hkind : k'.kind = .array comp (.array .int) := by rw [he]; exact h4
  have f1 : s.vm.findClass (FieldType.array .int).toString = some comp := by rw [hvm.findClass]; exact h1
  have f2 : s.vm.findClass ("[" ++ (FieldType.array .int).toString) = some c := by rw [hvm.findClass]; exact h5
  unfold Cond.before Cond.holds
  simp only [Cond.value]
  rw [f1, Option.bind_some]
  refine (congrArg (fun o : Option Nat => (o.bind (fun c => (s.vm.classes[c]?).map fun (k : Class) => match k.kind with | .array _ ty => decide (ty = FieldType.array .int) && decide (s.vm.findClass ("[" ++ (FieldType.array .int).toString) = some c) | _ => false) == some true)) hi).trans ?_
  simp [hk', hkind, f2]
theorem q_b0 (hY : q_Y s0 s) (hS : va_S (q_A s0) s.heap H locs) : s0.heap.size ≤ H.size := Nat.le_trans hY.2.1 hS.1

theorem q_n_getstatic {ix : Nat} (hF : q_Fx p s m args meth c R M) (hG : q_G E D cid s0) (hY : q_Y s0 s) {len : Nat} (hd : decode M.2.1 pc = .ok (.getstatic ix, len)) (hs : q_stepI E M (.getstatic ix) len pc ls st h = some (.inl f)) (hbd : c0 ≤ h.2.2.1 ∧ n0 ≤ h.2.2.2 ∧ f.2.2.2.2.2.1 - c0 ≤ R.cells ∧ f.2.2.2.2.2.2 - n0 ≤ R.slots) (hH : q_hp D cid s0.heap.size h H) (hS : va_S (q_A s0) s.heap H locs) (hL : q_L L M.2.2.1 ls) (kk : ∀ (H1 : Heap) (locs1 : List Loc) (L1 : Array Slot), q_hp D cid s0.heap.size f.2.2.2 H1 → va_S (q_A s0) s.heap H1 locs1 → q_L L1 M.2.2.1 f.2.1 → W p l e R s m args below meth c H1 locs1 (f.2.2.2.2.2.1 - c0) (f.2.2.2.2.2.2 - n0) Q (F0 m f.1 L1 f.2.2.1)) : W p l e R s m args below meth c H locs (h.2.2.1 - c0) (h.2.2.2 - n0) Q (F0 m pc L st) := by
  obtain ⟨hx, hb, hr, hml, hown, hts, hlk, hnm, htab, hfr, hlo⟩ := hF
  simp only [q_stepI, q_nx] at hs
  split at hs
  · rename_i j pos hq
    split at hs
    · rename_i v hv
      split at hs
      · rename_i hlen
        obtain ⟨hlen, ho⟩ := hlen
        subst hlen
        cases hs
        obtain ⟨w1, w2⟩ := q_stf_ok _ ho _ (q_lk_mem hq)
        dsimp only at w1 w2
        rcases w2 with w2 | w2
        · exact va_gets hx hb (q_Zat hG hY hv w1) hS hown (q_word hts w2 rfl) (fun x h => h) hd (kk H locs L hH hS hL)
        · have w3 := hG.2.2.2.2.1 _ (List.mem_of_getElem? w2) rfl
          exact va_getsN hx hb (q_Zat hG hY hv w1) hS hown (va_Nw.use rfl (va_Nw.warmF hY.1 w3)) (fun x h => h) hd (kk H locs L hH hS hL)
      · cases hs
    · cases hs
  · cases hs
theorem q_n_newarray {ty : ArrayType} (hF : q_Fx p s m args meth c R M) (hG : q_G E D cid s0) (hY : q_Y s0 s) {len : Nat} (hd : decode M.2.1 pc = .ok (.newarray ty, len)) (hs : q_stepI E M (.newarray ty) len pc ls st h = some (.inl f)) (hbd : c0 ≤ h.2.2.1 ∧ n0 ≤ h.2.2.2 ∧ f.2.2.2.2.2.1 - c0 ≤ R.cells ∧ f.2.2.2.2.2.2 - n0 ≤ R.slots) (hH : q_hp D cid s0.heap.size h H) (hS : va_S (q_A s0) s.heap H locs) (hL : q_L L M.2.2.1 ls) (kk : ∀ (H1 : Heap) (locs1 : List Loc) (L1 : Array Slot), q_hp D cid s0.heap.size f.2.2.2 H1 → va_S (q_A s0) s.heap H1 locs1 → q_L L1 M.2.2.1 f.2.1 → W p l e R s m args below meth c H1 locs1 (f.2.2.2.2.2.1 - c0) (f.2.2.2.2.2.2 - n0) Q (F0 m f.1 L1 f.2.2.1)) : W p l e R s m args below meth c H locs (h.2.2.1 - c0) (h.2.2.2 - n0) Q (F0 m pc L st) := by
  obtain ⟨hx, hb, hr, hml, hown, hts, hlk, hnm, htab, hfr, hlo⟩ := hF
  simp only [q_stepI, q_nx] at hs
  split at hs
  · rename_i n st1 a t ft ha hna
    split at hs
    · rename_i hlen
      obtain ⟨hlen, hn, hbig⟩ := hlen
      subst hlen
      cases hs
      have hsz := hH.1 a ha
      have htt : t < 5 ∧ q_at t = newarray.typeOf ty ∧ (∀ k : ClassId, arrV k n.toNatClampNeg (fun _ => defaultValue (newarray.typeOf ty)) = vp_cell k (n.toNatClampNeg, q_z t)) ∧ n.toNatClampNeg * componentBytes (newarray.typeOf ty) ≤ 536870912 := by
        cases ty <;> simp only [q_na, Option.some.injEq, Prod.mk.injEq, reduceCtorEq] at hna <;> obtain ⟨rfl, rfl⟩ := hna <;> exact ⟨by decide, rfl, fun k => rfl, by simp only [newarray.typeOf, componentBytes]; omega⟩
      obtain ⟨ht5, hty, hcell, hby⟩ := htt
      refine va_newaK hx hb (hts _ (by have := q_ac t ht5; rw [hty] at this; exact this) rfl) rfl hd rfl hn rfl hby (by have := hbd.2.2.1; dsimp only [q_al] at this; omega) (by have := hbd.2.2.2; dsimp only [q_al] at this; omega) hsz (fun H1 cA e1 e2 e3 e4 e5 => ?_)
      have hcA : cA = cid t := by
        have h6 := ((q_K hG hY).2 t _ (q_tys_at cid t (by omega))).2
        rw [hty] at h6
        have h7 : s.vm.findClass ("[" ++ (newarray.typeOf ty).toString) = some (cid t) := by
          cases ty <;> exact h6
        exact Option.some.inj (e5.symm.trans h7)
      subst hcA
      rw [show h.2.2.1 - c0 + 1 = h.2.2.1 + 1 - c0 by omega, show h.2.2.2 - n0 + n.toNatClampNeg = h.2.2.2 + n.toNatClampNeg - n0 by omega]
      refine kk H1 locs L (q_hp_new hH hsz e2 (hsz ▸ q_b0 hY hS) e3 ?_) (q_S_new hS (by rw [hsz]; exact e2) (by rw [hsz]; exact e3)) hL
      show H1[a]? = some (vp_cell (cid t) _)
      rw [e1, hcell]
    · cases hs
  · cases hs
theorem q_n_multianewarray {ix d : Nat} (hF : q_Fx p s m args meth c R M) (hG : q_G E D cid s0) (hY : q_Y s0 s) {len : Nat} (hd : decode M.2.1 pc = .ok (.multianewarray ix d, len)) (hs : q_stepI E M (.multianewarray ix d) len pc ls st h = some (.inl f)) (hbd : c0 ≤ h.2.2.1 ∧ n0 ≤ h.2.2.2 ∧ f.2.2.2.2.2.1 - c0 ≤ R.cells ∧ f.2.2.2.2.2.2 - n0 ≤ R.slots) (hH : q_hp D cid s0.heap.size h H) (hS : va_S (q_A s0) s.heap H locs) (hL : q_L L M.2.2.1 ls) (kk : ∀ (H1 : Heap) (locs1 : List Loc) (L1 : Array Slot), q_hp D cid s0.heap.size f.2.2.2 H1 → va_S (q_A s0) s.heap H1 locs1 → q_L L1 M.2.2.1 f.2.1 → W p l e R s m args below meth c H1 locs1 (f.2.2.2.2.2.1 - c0) (f.2.2.2.2.2.2 - n0) Q (F0 m f.1 L1 f.2.2.1)) : W p l e R s m args below meth c H locs (h.2.2.1 - c0) (h.2.2.2 - n0) Q (F0 m pc L st) := by
  obtain ⟨hx, hb, hr, hml, hown, hts, hlk, hnm, htab, hfr, hlo⟩ := hF
  simp only [q_stepI, q_nx] at hs
  split at hs
  · rename_i k n st1 a ps ha hq
    split at hs
    · rename_i hlen
      obtain ⟨⟨⟨hlen, ho⟩, hd2⟩, ⟨hn, hk⟩, hn1, hk1⟩ := hlen
      subst hlen; subst hd2
      cases hs
      have hsz := hH.1 a ha
      subst hsz
      have hKs := q_K hG hY
      have hov : (Cond.arrayOver (.array .int)).before args s = true := q_AOA hG hY
      have hb3 := hbd.2.2.1
      have hb4 := hbd.2.2.2
      dsimp only [q_alm] at hb3 hb4
      intro T hT X
      obtain ⟨vm₁, cA, comp, -, fA, fC, hO, -, X', step⟩ := X.multianewarray2F hx hown (ty := .int) (q_word hts (q_mna_ok _ ho _ (q_lk_mem hq)) rfl) hov (hts _ (q_ac 0 (by decide)) rfl) (g := F0 m pc L (.int k :: .int n :: st1)) rfl (by rw [hb]; exact hd) rfl hn hk (by omega) (by simp only [componentBytes]; omega) (by omega) rfl rfl (by omega) (by omega)
      have h0 : s.vm.findClass ("[" ++ (FieldType.int).toString) = some (cid 0) := (hKs.2 0 _ (q_tys_at cid 0 (by decide))).2
      have h8 : s.vm.findClass ("[" ++ (FieldType.array .int).toString) = some (cid 8) := (hKs.2 8 _ (q_tys_at cid 8 (by decide))).2
      have ec : comp = cid 0 := Option.some.inj (fC.symm.trans h0)
      have ec8 : cA = cid 8 := Option.some.inj (fA.symm.trans h8)
      subst ec; subst ec8
      generalize hFF : Jvm.Free.Multi.fill (T.setVm vm₁) (cid 8) (cid 0) n.toNatClampNeg k.toNatClampNeg (defaultValue .int) n.toNatClampNeg = F at X' step
      have hTh : (T.setVm vm₁).heap = H := hT
      obtain ⟨f1, f2, -, -⟩ := Jvm.Free.Multi.fill_facts (T.setVm vm₁) (cid 8) (cid 0) n.toNatClampNeg k.toNatClampNeg (defaultValue .int) n.toNatClampNeg
      rw [hFF, hTh] at f1 f2
      have hold : ∀ x : Nat, x < H.size → F.heap[x]? = H[x]? := fun x hx => by
        have := Jvm.Free.Multi.fill_old (T.setVm vm₁) (cid 8) (cid 0) n.toNatClampNeg k.toNatClampNeg (defaultValue .int) (a := x) (by rw [hTh]; exact hx) n.toNatClampNeg
        rw [hFF, hTh] at this
        exact this
      have hrow : ∀ j : Nat, j < n.toNatClampNeg → F.heap[H.size + 1 + j]? = some (vp_cell (cid 0) (k.toNatClampNeg, .inl fun _ => 0)) := fun j hj => by
        have := Jvm.Free.Multi.fill_inner (T.setVm vm₁) (cid 8) (cid 0) n.toNatClampNeg k.toNatClampNeg (defaultValue .int) n.toNatClampNeg j hj
        rw [hFF, hTh] at this
        rw [this, vp_cell_i]
        exact congrArg some (arrV_new _ _ _)
      have hout : Jvm.Free.Multi.outerC (cid 8) n.toNatClampNeg H.size n.toNatClampNeg = vp_cell (cid 8) (n.toNatClampNeg, .inr (.inr (.inr (.inr (fun i => if i < n.toNatClampNeg then some (H.size + 1 + i) else none))))) := by
        rw [vp_cell_q]
        exact vr_outer (cid 8) n.toNatClampNeg H.size n.toNatClampNeg
      rw [hout] at f2
      have hp2 : q_hp D cid s0.heap.size (q_alm h H.size n.toNatClampNeg k.toNatClampNeg) F.heap := by
        refine ⟨fun t ht => by cases ht; rw [f1], fun b e hb2 => ?_⟩
        have hb2 : (if b = H.size then some (.inl (8, n.toNatClampNeg, .inr (.inr (.inr (.inr fun i => if i < n.toNatClampNeg then some (H.size + 1 + i) else none))))) else if H.size < b ∧ b ≤ H.size + n.toNatClampNeg then some (.inl (0, k.toNatClampNeg, .inl fun _ => 0)) else h.1 b) = some e := hb2
        by_cases e1 : b = H.size
        · subst e1
          rw [if_pos rfl] at hb2
          cases hb2
          exact ⟨q_b0 hY hS, f2⟩
        · rw [if_neg e1] at hb2
          by_cases e2 : H.size < b ∧ b ≤ H.size + n.toNatClampNeg
          · rw [if_pos e2] at hb2
            cases hb2
            refine ⟨Nat.le_trans (q_b0 hY hS) (Nat.le_of_lt e2.1), ?_⟩
            have := hrow (b - (H.size + 1)) (by omega)
            rw [show H.size + 1 + (b - (H.size + 1)) = b by omega] at this
            exact this
          · rw [if_neg e2] at hb2
            have hk9 := hH.2 b e hb2
            exact ⟨hk9.1, hk9.2.kept (hold b hk9.2.lt)⟩
      have hS2 : va_S (q_A s0) s.heap F.heap locs := ⟨by rw [f1]; have := hS.1; omega, fun x h1 h2 => (hold x (Nat.lt_of_lt_of_le h1 hS.1)).trans (hS.2.1 x h1 h2), hS.2.2⟩
      have k9 := kk F.heap locs L hp2 hS2 hL
      dsimp only [q_alm] at k9
      rw [show h.2.2.1 + 1 + n.toNatClampNeg - c0 = h.2.2.1 - c0 + 1 + n.toNatClampNeg by omega, show h.2.2.2 + n.toNatClampNeg + n.toNatClampNeg * k.toNatClampNeg - n0 = h.2.2.2 - n0 + n.toNatClampNeg + n.toNatClampNeg * k.toNatClampNeg by omega] at k9
      obtain ⟨t, a1, b1⟩ := k9 F rfl X'
      refine ⟨t, step t ?_, b1⟩
      have e : T.heap.size = H.size := by rw [hT]
      rw [e]
      exact a1
    · cases hs
  · cases hs
theorem q_n_anewarray {ix : Nat} (hF : q_Fx p s m args meth c R M) (hG : q_G E D cid s0) (hY : q_Y s0 s) {len : Nat} (hd : decode M.2.1 pc = .ok (.anewarray ix, len)) (hs : q_stepI E M (.anewarray ix) len pc ls st h = some (.inl f)) (hbd : c0 ≤ h.2.2.1 ∧ n0 ≤ h.2.2.2 ∧ f.2.2.2.2.2.1 - c0 ≤ R.cells ∧ f.2.2.2.2.2.2 - n0 ≤ R.slots) (hH : q_hp D cid s0.heap.size h H) (hS : va_S (q_A s0) s.heap H locs) (hL : q_L L M.2.2.1 ls) (kk : ∀ (H1 : Heap) (locs1 : List Loc) (L1 : Array Slot), q_hp D cid s0.heap.size f.2.2.2 H1 → va_S (q_A s0) s.heap H1 locs1 → q_L L1 M.2.2.1 f.2.1 → W p l e R s m args below meth c H1 locs1 (f.2.2.2.2.2.1 - c0) (f.2.2.2.2.2.2 - n0) Q (F0 m f.1 L1 f.2.2.1)) : W p l e R s m args below meth c H locs (h.2.2.1 - c0) (h.2.2.2 - n0) Q (F0 m pc L st) := by
  obtain ⟨hx, hb, hr, hml, hown, hts, hlk, hnm, htab, hfr, hlo⟩ := hF
  simp only [q_stepI, q_nx] at hs
  split at hs
  · rename_i n st1 a t pos pos2 ha hq
    split at hs
    · rename_i hlen
      obtain ⟨⟨hlen, ho⟩, hn, hbig⟩ := hlen
      subst hlen
      cases hs
      have hsz := hH.1 a ha
      obtain ⟨w1, w2, w3⟩ := q_anw_ok _ ho _ (q_lk_mem hq)
      dsimp only at w1 w2 w3
      have hto : q_at t = .object (q_cnm (q_ec t)) := by
        match t, w2, w3 with
        | 5, _, _ => rfl
        | 6, _, _ => rfl
        | 7, _, _ => rfl
      have hK := q_K hG hY
      have hov : va_AO (q_cnm (q_ec t)) s := va_AO.moved hY.1.alike (va_AO.of (A := #[]) (by rw [← hto]; exact hG.2.2.2.2.2.1 t w2 w3))
      refine W.anew hx hb hown (q_word hts w1 rfl) (va_AO.use hov) rfl hd rfl hn (by omega) (by have := hbd.2.2.1; dsimp only [q_al] at this; omega) (by have := hbd.2.2.2; dsimp only [q_al] at this; omega) (fun cA kA comp e1 e2 e3 e4 => ?_)
      have hcA : cA = cid t := by
        have h6 := (hK.2 t _ (q_tys_at cid t (by omega))).2
        rw [hto] at h6
        obtain ⟨kA2, comp2, g1, g2, g3, g4⟩ := h6
        exact Option.some.inj (e1.symm.trans g4)
      subst hcA
      subst hsz
      rw [show h.2.2.1 - c0 + 1 = h.2.2.1 + 1 - c0 by omega, show h.2.2.2 - n0 + n.toNatClampNeg = h.2.2.2 + n.toNatClampNeg - n0 by omega]
      have ho2 : ∀ (x : Cell) (q : Nat), q < H.size → (H.push x)[q]? = H[q]? := fun x q hq => by rw [Array.getElem?_push_lt hq, Array.getElem?_eq_getElem hq]
      refine kk _ locs L (q_hp_new hH rfl (Array.size_push ..) (q_b0 hY hS) (ho2 _) ?_) (q_S_new hS (Array.size_push ..) (ho2 _)) hL
      show (H.push _)[H.size]? = some (vp_cell (cid t) (n.toNatClampNeg, .inr (.inr (.inr (.inr fun _ => none)))))
      rw [Array.getElem?_push_size, vp_cell_q]
      exact congrArg some (arrV_new _ _ _)
    · cases hs
  · cases hs
theorem q_n_new {ix : Nat} (hF : q_Fx p s m args meth c R M) (hG : q_G E D cid s0) (hY : q_Y s0 s) {len : Nat} (hd : decode M.2.1 pc = .ok (.new ix, len)) (hs : q_stepI E M (.new ix) len pc ls st h = some (.inl f)) (hbd : c0 ≤ h.2.2.1 ∧ n0 ≤ h.2.2.2 ∧ f.2.2.2.2.2.1 - c0 ≤ R.cells ∧ f.2.2.2.2.2.2 - n0 ≤ R.slots) (hH : q_hp D cid s0.heap.size h H) (hS : va_S (q_A s0) s.heap H locs) (hL : q_L L M.2.2.1 ls) (kk : ∀ (H1 : Heap) (locs1 : List Loc) (L1 : Array Slot), q_hp D cid s0.heap.size f.2.2.2 H1 → va_S (q_A s0) s.heap H1 locs1 → q_L L1 M.2.2.1 f.2.1 → W p l e R s m args below meth c H1 locs1 (f.2.2.2.2.2.1 - c0) (f.2.2.2.2.2.2 - n0) Q (F0 m f.1 L1 f.2.2.1)) : W p l e R s m args below meth c H locs (h.2.2.1 - c0) (h.2.2.2 - n0) Q (F0 m pc L st) := by
  obtain ⟨hx, hb, hr, hml, hown, hts, hlk, hnm, htab, hfr, hlo⟩ := hF
  simp only [q_stepI, q_nx] at hs
  split at hs
  · rename_i ci p1 p2 p3 hq
    split at hs
    · rename_i a ha
      split at hs
      · rename_i hlen
        obtain ⟨hlen, ho⟩ := hlen
        subst hlen
        cases hs
        have hsz := hH.1 a ha
        obtain ⟨w1, w2, w3, w4⟩ := q_new_ok _ ho _ (q_lk_mem hq)
        dsimp only at w1 w2 w3 w4
        have hK := q_K hG hY
        refine W.newc hx hb hown (q_word hts w1 rfl) (q_word hts w2 rfl) (q_word hts w3 rfl) rfl hd (by have := hbd.2.2.1; dsimp only [q_al] at this; omega) (by have := hbd.2.2.2; dsimp only [q_al] at this; omega) (fun cC kC e1 e2 e3 e4 => ?_)
        have hkn := hK.1 ci _ (q_cls_ok ci w4)
        have hcC : cC = D.1 ci := Option.some.inj (e1.symm.trans hkn.2.1)
        subst hcC
        subst hsz
        rw [show h.2.2.1 - c0 + 1 = h.2.2.1 + 1 - c0 by omega, show h.2.2.2 - n0 + q_N ci = h.2.2.2 + q_N ci - n0 by omega]
        have ho2 : ∀ (x : Cell) (q : Nat), q < H.size → (H.push x)[q]? = H[q]? := fun x q hq => by rw [Array.getElem?_push_lt hq, Array.getElem?_eq_getElem hq]
        refine kk _ locs L (q_hp_new hH rfl (Array.size_push ..) (q_b0 hY hS) (ho2 _) ?_) (q_S_new hS (Array.size_push ..) (ho2 _)) hL
        refine ⟨_, q_cls_ok ci w4, t_OB.to (u_born (q_ty ci) (q_uw (c := ci) w4 hts) (fun w h => h) hkn e2 (by rw [Array.getElem?_push_size]; rfl) (q_ty_ok ci w4)) (fun k hk => ?_)⟩
        simp [vp_V, q_df, hk]
      · cases hs
    · cases hs
  · split at hs
    · split at hs
      · cases hs
      · cases hs
    · cases hs
theorem q_n_aastore (hF : q_Fx p s m args meth c R M) (hG : q_G E D cid s0) (hY : q_Y s0 s) {len : Nat} (hd : decode M.2.1 pc = .ok (.aastore, len)) (hs : q_stepI E M (.aastore) len pc ls st h = some (.inl f)) (hbd : c0 ≤ h.2.2.1 ∧ n0 ≤ h.2.2.2 ∧ f.2.2.2.2.2.1 - c0 ≤ R.cells ∧ f.2.2.2.2.2.2 - n0 ≤ R.slots) (hH : q_hp D cid s0.heap.size h H) (hS : va_S (q_A s0) s.heap H locs) (hL : q_L L M.2.2.1 ls) (kk : ∀ (H1 : Heap) (locs1 : List Loc) (L1 : Array Slot), q_hp D cid s0.heap.size f.2.2.2 H1 → va_S (q_A s0) s.heap H1 locs1 → q_L L1 M.2.2.1 f.2.1 → W p l e R s m args below meth c H1 locs1 (f.2.2.2.2.2.1 - c0) (f.2.2.2.2.2.2 - n0) Q (F0 m f.1 L1 f.2.2.1)) : W p l e R s m args below meth c H locs (h.2.2.1 - c0) (h.2.2.2 - n0) Q (F0 m pc L st) := by
  obtain ⟨hx, hb, hr, hml, hown, hts, hlk, hnm, htab, hfr, hlo⟩ := hF
  simp only [q_stepI, q_nx] at hs
  split at hs
  · rename_i v i a st1
    split at hs
    · rename_i h1 hv
      split at hs
      · rename_i hlen
        subst hlen
        cases hs
        obtain ⟨t, n, g, fs, hc1, hc2, ht, hin, rfl⟩ := q_sQ_some hv
        have hK := q_K hG hY
        have hto : q_at t = .object (q_cnm (q_ec t)) ∧ q_ec t < 10 := by
          match t, ht with
          | 5, _ => exact ⟨rfl, by decide⟩
          | 6, _ => exact ⟨rfl, by decide⟩
          | 7, _ => exact ⟨rfl, by decide⟩
        obtain ⟨hto, hec⟩ := hto
        have hcell : H[a]? = some (vp_cell (cid t) (n, .inr (.inr (.inr (.inr g))))) := q_cell hH hc1
        obtain ⟨-, r, h1r, cell, g1, g2, g3, g4⟩ := hH.2 v _ hc2
        have hcl := q_cls_ok (q_ec t) hec
        have hcls := (hK.1 _ _ hcl).2
        have h6 := (hK.2 t _ (q_tys_at cid t (Nat.lt_of_le_of_lt ht.2 (by decide)))).2
        rw [hto] at h6
        obtain ⟨kA, comp, k1, k2, k3, -⟩ := h6
        have hcomp : comp = D.1 (q_ec t) := Option.some.inj (k3.symm.trans hcls.1)
        subst hcomp
        obtain ⟨kC, hkC, -⟩ := hcls.2
        have hlt : i.toNatClampNeg < n := Nat.not_le.mp fun q => hin (Or.inr q)
        refine W.aast hx hb hcell (fun q h => by cases h) (fun h => by cases h) k1 k2 rfl hkC ⟨fun z => hin (Or.inl z), by show _ < (arrV _ _ _).slots.size; rw [arrV_size]; exact hlt⟩ g1 (fun q h => by rw [g3] at h; cases h) (by rw [g2]; exact hkC) (by rw [g2]; exact va_assign hcls) rfl rfl hd fun H1 e1 e2 e3 => ?_
        refine kk H1 _ L (q_hp_put hH e2 (hH.2 a _ hc1).1 e3 ?_) (hS.put e2 e3 (hH.2 a _ hc1).1) hL
        show H1[a]? = some (vp_cell _ _)
        rw [e1]
        rw [vp_cell_q, vp_cell_q, arrV_store]
        congr 2
        funext q
        by_cases hq : q = i.toNatClampNeg
        · subst hq
          simp [updV, va_up, va_rf]
        · simp [updV, va_up, hq]
      · cases hs
    · cases hs
  · cases hs
end QP
end
section
/-! copies, Math, Object's constructor: and all instructions that go on in the same frame -/
section QQ
variable {p : Program} {l : Launch} {e : Env} {R : Room} {s s0 : State} {m : MethodId} {args : Array Value} {below : List Frame} {meth : Method} {c : Code} {H : Heap} {locs : List Loc} {Q : State → Prop} {cells slots : Nat} {rest : List Value}
variable {E : q_E} {D : va_G} {cid : Nat → ClassId} {M : q_M} {pc : Nat} {ls st : List Value} {h : q_H} {L : Array Slot} {f : q_F} {c0 n0 : Nat}
theorem q_call_inv {k n : Nat} {M' : q_M} {x : q_S} (hs : q_call E M k n M' st h = some x) : q_hgt M' < q_hgt M ∧ ∃ (j : Nat) (vs rest : List Value), x = .inr (.inl (M', j, vs, rest)) ∧ (q_exp vs).length ≤ M'.2.2.1 ∧ q_cat rest ≤ 8 ∧ (k = 0 → vs.length = n ∧ st = vs.reverse ++ rest) ∧
    (¬ k = 0 → ∃ (b : Nat) (ws : List Value), vs = .ref b :: ws ∧ ws.length = n ∧ st = ws.reverse ++ .ref b :: rest ∧ (k = 1 → (∃ fs, q_rc (q_own M') < 10 ∧ h.1 b = some (.inr (q_rc (q_own M'), fs))) ∨ (q_own M' = 12 ∧ (q_sx E b).isSome = true))) := by
  unfold q_call at hs
  split at hs
  · rename_i h1
    obtain ⟨h1, h2⟩ := h1
    have hlen : (st.take n).reverse.length = n := by simp; omega
    refine ⟨h1, ?_⟩
    split at hs
    · split at hs
      · rename_i h3
        cases hs
        refine ⟨0, _, _, rfl, h3.2, h3.1, fun _ => ⟨hlen, ?_⟩, fun h => absurd rfl h⟩
        rw [List.reverse_reverse, List.take_append_drop]
      · cases hs
    · rename_i k'
      split at hs
      · rename_i b rest hd
        have hst : st = (st.take n).reverse.reverse ++ .ref b :: rest := by rw [List.reverse_reverse, ← hd, List.take_append_drop]
        split at hs
        · rename_i h3
          split at hs
          · split at hs
            · rename_i ci fs hb
              split at hs
              · rename_i h4
                obtain ⟨h4, h5⟩ := h4
                subst h4
                cases hs
                exact ⟨1, _, _, rfl, h3.2, h3.1, fun h => absurd h (by omega), fun _ => ⟨b, _, rfl, hlen, hst, fun _ => Or.inl ⟨fs, h5, hb⟩⟩⟩
              · cases hs
            · split at hs
              · rename_i h4
                cases hs
                exact ⟨1, _, _, rfl, h3.2, h3.1, fun h => absurd h (by omega), fun _ => ⟨b, _, rfl, hlen, hst, fun _ => Or.inr h4⟩⟩
              · cases hs
            · cases hs
          · cases hs
            exact ⟨2, _, _, rfl, h3.2, h3.1, fun h => absurd h (by omega), fun _ => ⟨b, _, rfl, hlen, hst, fun h => absurd h (by omega)⟩⟩
        · cases hs
      · cases hs
  · cases hs
theorem q_call_no {k n : Nat} {M' : q_M} {f : q_F} (hs : q_call E M k n M' st h = some (.inl f)) : False := by
  obtain ⟨-, j, vs, rest, hx, -⟩ := q_call_inv hs
  cases hx
theorem q_callU_inv {n : Nat} {M' : q_M} {x : q_S} (hs : q_callU M n M' st h = some x) : q_hgt M' < q_hgt M ∧ ∃ (b : Nat) (ws rest fs : List Value), x = .inr (.inl (M', 2, .ref b :: ws, rest)) ∧ (q_exp (.ref b :: ws)).length ≤ M'.2.2.1 ∧ q_cat rest ≤ 8 ∧ ws.length = n ∧ st = ws.reverse ++ .ref b :: rest ∧ h.1 b = some (.inr (8, fs)) := by
  unfold q_callU at hs
  split at hs
  · rename_i h1
    obtain ⟨h1, h2⟩ := h1
    have hlen : (st.take n).reverse.length = n := by simp; omega
    refine ⟨h1, ?_⟩
    split at hs
    · rename_i b rest hd
      have hst : st = (st.take n).reverse.reverse ++ .ref b :: rest := by rw [List.reverse_reverse, ← hd, List.take_append_drop]
      split at hs
      · rename_i fs hb
        split at hs
        · rename_i h3
          cases hs
          exact ⟨b, _, _, fs, rfl, h3.2, h3.1, hlen, hst, hb⟩
        · cases hs
      · cases hs
    · cases hs
  · cases hs
theorem q_callU_no {n : Nat} {M' : q_M} {f : q_F} (hs : q_callU M n M' st h = some (.inl f)) : False := by
  obtain ⟨-, b, ws, rest, fs, hx, -⟩ := q_callU_inv hs
  cases hx
theorem q_clw : Cond.sameMethod "[B" "java/lang/Object" "clone" "()Ljava/lang/Object;" ∈ lw_tbl ∧ Cond.native ⟨"java/lang/Object", "clone", "()Ljava/lang/Object;"⟩ ∈ lw_tbl ∧ Cond.instanceMethod ⟨"java/lang/Object", "clone", "()Ljava/lang/Object;"⟩ ∈ lw_tbl ∧ Cond.selects "[B" ⟨"[B", "clone", "()Ljava/lang/Object;"⟩ ⟨"java/lang/Object", "clone", "()Ljava/lang/Object;"⟩ ∈ lw_tbl ∧ Cond.castable "[B" "java/lang/Cloneable" ∈ lw_tbl := by decide +kernel
theorem q_cloneK {cc : ByteArray} (hexec : p.tables.exec = Jvm.exec) (hb : c.code = cc) {ls : Array Slot} (hml : c.maxLocals = ls.size) {own : String} {index : Nat} (hown : s.vm.findClass own = some m.cls)
    (hlink : (Cond.methodLink own index ⟨"[B", "clone", "()Ljava/lang/Object;"⟩).before args s = true) (hsame : (Cond.sameMethod "[B" "java/lang/Object" "clone" "()Ljava/lang/Object;").before args s = true)
    (hnat : (Cond.native ⟨"java/lang/Object", "clone", "()Ljava/lang/Object;"⟩).before args s = true) (hinst : (Cond.instanceMethod ⟨"java/lang/Object", "clone", "()Ljava/lang/Object;"⟩).before args s = true)
    (hsel : (Cond.selects "[B" ⟨"[B", "clone", "()Ljava/lang/Object;"⟩ ⟨"java/lang/Object", "clone", "()Ljava/lang/Object;"⟩).before args s = true) (hcl : va_Nw (.castable "[B" "java/lang/Cloneable") s)
    {a n : Nat} {g : Nat → Int32} {cA : ClassId} (hA : ArrOfT s cA .byte) (hc : H[a]? = some (vp_cell cA (n, .inl g))) (hnm : s.vm.findClass "[B" = some cA) (hfit : ∀ i, i < n → fits .byte (.int (g i)) = true)
    (hframes : 1 ≤ R.frames) (hlocals : (rest.map fun v => v.category).sum + 14 ≤ R.locals) (hcells : cells + 1 ≤ R.cells) (hslots : slots + n ≤ R.slots) (hdg : decode cc pc = .ok (.invokevirtual index, 3))
    (kk : ∀ H1 : Heap, H1[H.size]? = some (vp_cell cA (n, .inl g)) → H1.size = H.size + 1 → (∀ q : Nat, q < H.size → H1[q]? = H[q]?) → W p l e R s m args below meth c H1 locs (cells + 1) (slots + n) Q (F0 m (pc + 3) ls (.ref H.size :: rest))) : W p l e R s m args below meth c H locs cells slots Q (F0 m pc ls (.ref a :: rest)) := by
  have hsz : (vp_cell cA (n, .inl g)).slots.size = n := arrV_size _ _ _
  obtain ⟨c0, t0', f1, f2, f3⟩ := Cond.castable_spec (va_Nw.use (A := args) rfl hcl)
  cases hnm.symm.trans f1
  intro T hT X
  have hcellT : T.heap[a]? = some (vp_cell cA (n, .inl g)) := by rw [hT]; exact hc
  obtain ⟨-, kA, hkA, comp, hkind⟩ := State.isArrayOf_alike X.warmed.alike (hA 0 (fun _ => .null))
  obtain ⟨-, kS, hkS, compS, hkindS⟩ := hA 0 (fun _ => .null)
  obtain ⟨vm', X', st⟩ := X.cloneArray hexec hown hlink hsame hnat hinst hsel (a := a) (cell := vp_cell cA (n, .inl g)) hcellT (fun k h => by cases h) (fun h => by cases h) hnm f2 f3
    (fun i v hv => by
      have hk' : T.vm.classes[cA]? = some kA := hkA
      have hin : i < n := by
        have := (Array.getElem?_eq_some_iff.mp hv).1
        rw [hsz] at this
        exact this
      have hv2 : v = .int (g i) := by
        have e : (vp_cell cA (n, .inl g)).slots[i]? = some (.int (g i)) := arrV_read _ _ hin
        exact Option.some.inj (hv.symm.trans e)
      subst hv2
      have := hfit i hin
      simpa [State.fitsSlot, State.slotType?, hk', hkind, vp_cell, arrV] using this)
    (g := F0 m pc ls (.ref a :: rest)) rfl (by rw [hml]) rfl (by rw [hb]; exact hdg) hframes (by show 2 * 0 + _ + 14 ≤ _; omega) hcells (by rw [hsz]; exact hslots) (hloader := Vm.clonesLoader_of_array hkS hkindS)
  have hcellE : ({ cls := (vp_cell cA (n, .inl g)).cls, slots := (vp_cell cA (n, .inl g)).slots } : Cell) = vp_cell cA (n, .inl g) := rfl
  rw [hcellE, hsz] at X'
  generalize hH1 : H.push (vp_cell cA (n, .inl g)) = H1
  have z1 : H1.size = H.size + 1 := by rw [← hH1, Array.size_push]
  have e1 : H1[H.size]? = some (vp_cell cA (n, .inl g)) := by rw [← hH1, Array.getElem?_push_size]
  have o1 : ∀ q : Nat, q < H.size → H1[q]? = H[q]? := fun q hq => by rw [← hH1, Array.getElem?_push, if_neg (Nat.ne_of_lt hq)]
  obtain ⟨t, b1, b2⟩ := kk H1 e1 z1 o1 ((T.setVm vm').pushCell (vp_cell cA (n, .inl g))) (by rw [← hH1, ← hT]; rfl) X'
  refine ⟨t, st t ?_, b2⟩
  rw [hcellE, hT]
  exact b1
theorem q_stretch {cs : Cell} {k0 : ClassId} {n0 sp n : Nat} {g : Nat → Int32} (hv : ∀ i, i < n → cs.slots.getD (sp + i) .null = .int (g (sp + i))) (hle : sp + n ≤ n0) : cs.stretch sp n = (arrV k0 n0 (fun j => .int (g j))).stretch sp n := by
  unfold Cell.stretch
  apply List.map_congr_left
  intro i hi
  have hi' := List.mem_range.mp hi
  rw [hv i hi', Array.getD_eq_getD_getElem?, arrV_read _ _ (by omega)]
  rfl
theorem q_cpy_ok (hF : q_Fx p s m args meth c R M) (hG : q_G E D cid s0) (hY : q_Y s0 s) (hH : q_hp D cid s0.heap.size h H) (hS : va_S (q_A s0) s.heap H locs) (hLs : L.size = c.maxLocals) (ho : q_own M < 17) (hg1 : 1 ≤ q_hgt M) {ix pos : Nat} (hq : q_lk (q_acp (q_own M)) ix = some pos) {a0 a : Nat} {sp dp n : Int32} {h' : q_H} (hv : q_cpy E h a0 sp a dp n = some h') (hcat : q_cat rest ≤ 8) (hd : decode M.2.1 pc = .ok (.invokestatic ix, 3))
    (kk : ∀ (H1 : Heap) (locs1 : List Loc), q_hp D cid s0.heap.size h' H1 → va_S (q_A s0) s.heap H1 locs1 → h'.2.2 = h.2.2 → W p l e R s m args below meth c H1 locs1 cells slots Q (F0 m (pc + 3) L rest)) :
    W p l e R s m args below meth c H locs cells slots Q (F0 m pc L (.int n :: .int dp :: .ref a :: .int sp :: .ref a0 :: rest)) := by
  obtain ⟨hx, hb, hr, hml, hown, hts, hlk, hnm, htab, hfr, hlo⟩ := hF
  have hK := q_K hG hY
  have hw := q_word (s := s) (args := args) hts (q_acp_ok _ ho _ (q_lk_mem hq)) rfl
  have hroom : (rest.map fun v => v.category).sum + (nativeFrameWords "java/lang/System" "arraycopy" 5 + 11) ≤ R.locals := by
    have h8 : (rest.map fun v => v.category).sum ≤ 8 := hcat
    have : nativeFrameWords "java/lang/System" "arraycopy" 5 ≤ 40 := by decide +kernel
    omega
  unfold q_cpy at hv
  split at hv
  · rename_i t0 n1 g1 t1 n2 g2 ha0 ha
    split at hv
    · rename_i hc
      obtain ⟨⟨e1, e2⟩, ⟨⟨h1, h2, h3⟩, h4, h5⟩, hz, hz4⟩ := hc
      subst e1
      cases hv
      have ht9 : t0 < 9 := by rcases e2 with h | h | h <;> rw [h] <;> decide
      have hc0 := q_cell hH ha0
      have hc1 := q_cell hH ha
      have hA := (hK.2 t0 _ (q_tys_at cid t0 ht9)).1
      refine q_copyW hx hb (hLs.symm) hown hw (hts _ q_sys.1 rfl) (hts _ q_sys.2.1 rfl) (hts _ q_sys.2.2.1 rfl) (ty := q_at t0) hc0 hc1 (hA n1 (fun j => .int (g1 j))) (hA n2 (fun j => .int (g2 j))) (fun q => by cases q) (fun q => by cases q) (by rcases e2 with h | h | h <;> rw [h] <;> rfl) h1 h2 h3
        (by show _ ≤ (arrV _ _ _).slots.size; rw [arrV_size]; exact h4) (by show _ ≤ (arrV _ _ _).slots.size; rw [arrV_size]; exact h5) (fun i hi => ?_) (by omega) hroom hd (fun H1 locs1 k1 k2 k3 k4 => ?_)
      · have e : (vp_cell (cid t0) (n1, .inl g1)).slots.getD (sp.toNatClampNeg + i) .null = .int (g1 (sp.toNatClampNeg + i)) := by
          show (arrV (cid t0) n1 (fun j => .int (g1 j))).slots.getD _ _ = _
          rw [Array.getD_eq_getD_getElem?, arrV_read _ _ (by omega)]
          rfl
        rw [e]
        refine ⟨?_, fun T k => trivial⟩
        rcases e2 with h | h | h
        · rw [h]; rfl
        · rw [h]; exact hz h i hi
        · rw [h]; exact hz4 h i hi
      · have e9 : copied (vp_cell (cid t0) (n1, .inl g1)) (vp_cell (cid t0) (n2, .inl g2)) sp dp n = vp_cell (cid t0) (n2, .inl (va_cpy g1 g2 sp.toNatClampNeg dp.toNatClampNeg n.toNatClampNeg)) := va_copied (fun z => .int z) (cid t0) (cid t0) g1 g2 h4
        rw [e9] at k1
        exact kk H1 locs1 (q_hp_put hH k2 (hH.2 a _ ha).1 k3 k1) (q_S_at hS k2 k3 (hH.2 a _ ha).1 k4) rfl
    · cases hv
  · rename_i t0 n1 g1 t1 n2 g2 ha0 ha
    split at hv
    · rename_i hc
      obtain ⟨⟨e1, e2⟩, ⟨⟨h1, h2, h3⟩, h4, h5⟩⟩ := hc
      subst e1; subst e2
      cases hv
      have hc0 := q_cell hH ha0
      have hc1 := q_cell hH ha
      have hA := (hK.2 1 _ (q_tys_at cid 1 (by decide))).1
      refine q_copyW hx hb (hLs.symm) hown hw (hts _ q_sys.1 rfl) (hts _ q_sys.2.1 rfl) (hts _ q_sys.2.2.1 rfl) (ty := .long) hc0 hc1 (hA n1 (fun j => .long (g1 j))) (hA n2 (fun j => .long (g2 j))) (fun q => by cases q) (fun q => by cases q) rfl h1 h2 h3
        (by show _ ≤ (arrV _ _ _).slots.size; rw [arrV_size]; exact h4) (by show _ ≤ (arrV _ _ _).slots.size; rw [arrV_size]; exact h5) (fun i hi => ?_) (by omega) hroom hd (fun H1 locs1 k1 k2 k3 k4 => ?_)
      · have e : (vp_cell (cid 1) (n1, .inr (.inl g1))).slots.getD (sp.toNatClampNeg + i) .null = .long (g1 (sp.toNatClampNeg + i)) := by
          show (arrV (cid 1) n1 (fun j => .long (g1 j))).slots.getD _ _ = _
          rw [Array.getD_eq_getD_getElem?, arrV_read _ _ (by omega)]
          rfl
        rw [e]
        exact ⟨rfl, fun T k => trivial⟩
      · have e9 : copied (vp_cell (cid 1) (n1, .inr (.inl g1))) (vp_cell (cid 1) (n2, .inr (.inl g2))) sp dp n = vp_cell (cid 1) (n2, .inr (.inl (va_cpy g1 g2 sp.toNatClampNeg dp.toNatClampNeg n.toNatClampNeg))) := va_copied (fun z => .long z) (cid 1) (cid 1) g1 g2 h4
        rw [e9] at k1
        exact kk H1 locs1 (q_hp_put hH k2 (hH.2 a _ ha).1 k3 k1) (q_S_at hS k2 k3 (hH.2 a _ ha).1 k4) rfl
    · cases hv
  · rename_i t1 n2 g2 ha0 ha
    split at hv
    · rename_i n1 g1 he
      split at hv
      · rename_i hc
        obtain ⟨e1, ⟨⟨h1, h2, h3⟩, h4, h5⟩, hz⟩ := hc
        subst e1
        cases hv
        obtain ⟨cs, t1, t2, t3, t4, t5, t6, t7⟩ := q_Tat hG hY he
        have hc0 : H[a0]? = some cs := by rw [hS.2.1 a0 (Array.getElem?_eq_some_iff.mp t1).1 t7]; exact t1
        have hc1 := q_cell hH ha
        have hA := (hK.2 0 _ (q_tys_at cid 0 (by decide))).1
        have hval : ∀ i, i < n.toNatClampNeg → cs.slots.getD (sp.toNatClampNeg + i) .null = .int (q_iv g1 (sp.toNatClampNeg + i)) := fun i hi => by
          rw [Array.getD_eq_getD_getElem?, t6 _ (by omega), hz i hi]
          rfl
        refine q_copyW hx hb (hLs.symm) hown hw (hts _ q_sys.1 rfl) (hts _ q_sys.2.1 rfl) (hts _ q_sys.2.2.1 rfl) (ty := .int) hc0 hc1 t2 (hA n2 (fun j => .int (g2 j))) t3 (fun q => by cases q) rfl h1 h2 h3
          (by omega) (by show _ ≤ (arrV _ _ _).slots.size; rw [arrV_size]; exact h5) (fun i hi => ?_) (by omega) hroom hd (fun H1 locs1 k1 k2 k3 k4 => ?_)
        · rw [hval i hi]
          exact ⟨rfl, fun T k => trivial⟩
        · have e9 : copied cs (vp_cell (cid 0) (n2, .inl g2)) sp dp n = vp_cell (cid 0) (n2, .inl (va_cpy (q_iv g1) g2 sp.toNatClampNeg dp.toNatClampNeg n.toNatClampNeg)) := by
            show (vp_cell (cid 0) (n2, .inl g2)).storeRun _ (cs.stretch _ _) = _
            rw [q_stretch (k0 := cid 0) hval h4]
            exact va_copied (fun z => .int z) (cid 0) (cid 0) (q_iv g1) g2 h4
          rw [e9] at k1
          exact kk H1 locs1 (q_hp_put hH k2 (hH.2 a _ ha).1 k3 k1) (q_S_at hS k2 k3 (hH.2 a _ ha).1 k4) rfl
      · cases hv
    · rename_i n1 g1 he
      split at hv
      · rename_i hc
        obtain ⟨e1, ⟨⟨h1, h2, h3⟩, h4, h5⟩, hz⟩ := hc
        subst e1
        cases hv
        obtain ⟨cs, t1, t2, t3, t4, t5, t6, t7⟩ := q_Tat hG hY he
        have hc0 : H[a0]? = some cs := by rw [hS.2.1 a0 (Array.getElem?_eq_some_iff.mp t1).1 t7]; exact t1
        have hc1 := q_cell hH ha
        have hA := (hK.2 4 _ (q_tys_at cid 4 (by decide))).1
        have hval : ∀ i, i < n.toNatClampNeg → cs.slots.getD (sp.toNatClampNeg + i) .null = .int (q_iv g1 (sp.toNatClampNeg + i)) := fun i hi => by
          rw [Array.getD_eq_getD_getElem?, t6 _ (by omega), (hz i hi).1]
          rfl
        refine q_copyW hx hb (hLs.symm) hown hw (hts _ q_sys.1 rfl) (hts _ q_sys.2.1 rfl) (hts _ q_sys.2.2.1 rfl) (ty := .byte) hc0 hc1 t2 (hA n2 (fun j => .int (g2 j))) t3 (fun q => by cases q) rfl h1 h2 h3
          (by omega) (by show _ ≤ (arrV _ _ _).slots.size; rw [arrV_size]; exact h5) (fun i hi => ?_) (by omega) hroom hd (fun H1 locs1 k1 k2 k3 k4 => ?_)
        · rw [hval i hi]
          exact ⟨(hz i hi).2, fun T k => trivial⟩
        · have e9 : copied cs (vp_cell (cid 4) (n2, .inl g2)) sp dp n = vp_cell (cid 4) (n2, .inl (va_cpy (q_iv g1) g2 sp.toNatClampNeg dp.toNatClampNeg n.toNatClampNeg)) := by
            show (vp_cell (cid 4) (n2, .inl g2)).storeRun _ (cs.stretch _ _) = _
            rw [q_stretch (k0 := cid 4) hval h4]
            exact va_copied (fun z => .int z) (cid 4) (cid 4) (q_iv g1) g2 h4
          rw [e9] at k1
          exact kk H1 locs1 (q_hp_put hH k2 (hH.2 a _ ha).1 k3 k1) (q_S_at hS k2 k3 (hH.2 a _ ha).1 k4) rfl
      · cases hv
    · cases hv
  · cases hv

theorem q_n_invokestatic {ix : Nat} (hF : q_Fx p s m args meth c R M) (hG : q_G E D cid s0) (hY : q_Y s0 s) {len : Nat} (hd : decode M.2.1 pc = .ok (.invokestatic ix, len)) (hs : q_stepI E M (.invokestatic ix) len pc ls st h = some (.inl f)) (hbd : c0 ≤ h.2.2.1 ∧ n0 ≤ h.2.2.2 ∧ f.2.2.2.2.2.1 - c0 ≤ R.cells ∧ f.2.2.2.2.2.2 - n0 ≤ R.slots) (hH : q_hp D cid s0.heap.size h H) (hS : va_S (q_A s0) s.heap H locs) (hL : q_L L M.2.2.1 ls) (kk : ∀ (H1 : Heap) (locs1 : List Loc) (L1 : Array Slot), q_hp D cid s0.heap.size f.2.2.2 H1 → va_S (q_A s0) s.heap H1 locs1 → q_L L1 M.2.2.1 f.2.1 → W p l e R s m args below meth c H1 locs1 (f.2.2.2.2.2.1 - c0) (f.2.2.2.2.2.2 - n0) Q (F0 m f.1 L1 f.2.2.1)) : W p l e R s m args below meth c H locs (h.2.2.1 - c0) (h.2.2.2 - n0) Q (F0 m pc L st) := by
  obtain ⟨hx, hb, hr, hml, hown, hts, hlk, hnm, htab, hfr, hlo⟩ := hF
  simp only [q_stepI, q_nx] at hs
  have hF9 : q_Fx p s m args meth c R M := ⟨hx, hb, hr, hml, hown, hts, hlk, hnm, htab, hfr, hlo⟩
  split at hs
  · split at hs
    · exact (q_call_no hs).elim
    · cases hs
  · split at hs
    · rename_i pos n dp a sp a0 st1 hq
      split at hs
      · rename_i h1 hv
        split at hs
        · rename_i hlen
          obtain ⟨⟨hlen, ho⟩, hg1, hcat⟩ := hlen
          subst hlen
          cases hs
          refine q_cpy_ok hF9 hG hY hH hS (hL.2.1.trans hml.symm) ho hg1 hq hv hcat hd (fun H1 locs1 k1 k2 k3 => ?_)
          have k9 := kk H1 locs1 L k1 k2 hL
          dsimp only at k9
          rw [k3] at k9
          exact k9
        · cases hs
      · cases hs
    · rename_i y x st1 hq
      split at hs
      · rename_i j pq hq2
        split at hs
        · rename_i hlen
          obtain ⟨⟨hlen, ho⟩, hg1, hcat⟩ := hlen
          subst hlen
          cases hs
          obtain ⟨w1, w2, w3, w4, w5⟩ := q_mth_ok _ ho _ (q_lk_mem hq2)
          dsimp only at w1 w2 w3 w4 w5
          have h8 : (st1.map fun v => v.category).sum ≤ 8 := hcat
          have hb3 := hbd.2.2.1
          have hb4 := hbd.2.2.2
          dsimp only at hb3 hb4
          match j, w1 with
          | 0, _ => exact va_mmax hx hb (hml.trans hL.2.1.symm) hown (q_word hts w2 rfl) (q_word hts w3 rfl) (q_word hts w4 rfl) (q_word hts w5 rfl) (by omega) (by omega) hb3 hb4 hd (kk H locs L hH hS hL)
          | 1, _ => exact va_mmin hx hb (hml.trans hL.2.1.symm) hown (q_word hts w2 rfl) (q_word hts w3 rfl) (q_word hts w4 rfl) (q_word hts w5 rfl) (by omega) (by omega) hb3 hb4 hd (kk H locs L hH hS hL)
        · cases hs
      · cases hs
    · cases hs
theorem q_n_invokespecial {ix : Nat} (hF : q_Fx p s m args meth c R M) (hG : q_G E D cid s0) (hY : q_Y s0 s) {len : Nat} (hd : decode M.2.1 pc = .ok (.invokespecial ix, len)) (hs : q_stepI E M (.invokespecial ix) len pc ls st h = some (.inl f)) (hbd : c0 ≤ h.2.2.1 ∧ n0 ≤ h.2.2.2 ∧ f.2.2.2.2.2.1 - c0 ≤ R.cells ∧ f.2.2.2.2.2.2 - n0 ≤ R.slots) (hH : q_hp D cid s0.heap.size h H) (hS : va_S (q_A s0) s.heap H locs) (hL : q_L L M.2.2.1 ls) (kk : ∀ (H1 : Heap) (locs1 : List Loc) (L1 : Array Slot), q_hp D cid s0.heap.size f.2.2.2 H1 → va_S (q_A s0) s.heap H1 locs1 → q_L L1 M.2.2.1 f.2.1 → W p l e R s m args below meth c H1 locs1 (f.2.2.2.2.2.1 - c0) (f.2.2.2.2.2.2 - n0) Q (F0 m f.1 L1 f.2.2.1)) : W p l e R s m args below meth c H locs (h.2.2.1 - c0) (h.2.2.2 - n0) Q (F0 m pc L st) := by
  obtain ⟨hx, hb, hr, hml, hown, hts, hlk, hnm, htab, hfr, hlo⟩ := hF
  simp only [q_stepI, q_nx] at hs
  split at hs
  · split at hs
    · exact (q_call_no hs).elim
    · cases hs
  · split at hs
    · split at hs
      · exact (q_callU_no hs).elim
      · cases hs
    · split at hs
      · rename_i pos a st1 hq
        split at hs
        · rename_i hlen
          obtain ⟨⟨hlen, ho⟩, hg1, hcat⟩ := hlen
          subst hlen
          cases hs
          have h8 : (st1.map fun v => v.category).sum ≤ 8 := hcat
          exact W.objInit hx hb hown (q_word hts (q_obi_ok _ ho _ (q_lk_mem hq)) rfl) (hts _ q_sys.2.2.2.1 rfl) (hts _ q_sys.2.2.2.2 rfl) (g := F0 m pc L (.ref a :: st1)) rfl (hL.2.1.trans hml.symm) rfl hd (by omega) (by show 2 * 0 + _ + _ ≤ _; omega) (kk H locs L hH hS hL)
        · cases hs
      · cases hs
theorem q_n_invokevirtual {ix : Nat} (hF : q_Fx p s m args meth c R M) (hG : q_G E D cid s0) (hY : q_Y s0 s) {len : Nat} (hd : decode M.2.1 pc = .ok (.invokevirtual ix, len)) (hs : q_stepI E M (.invokevirtual ix) len pc ls st h = some (.inl f)) (hbd : c0 ≤ h.2.2.1 ∧ n0 ≤ h.2.2.2 ∧ f.2.2.2.2.2.1 - c0 ≤ R.cells ∧ f.2.2.2.2.2.2 - n0 ≤ R.slots) (hH : q_hp D cid s0.heap.size h H) (hS : va_S (q_A s0) s.heap H locs) (hL : q_L L M.2.2.1 ls) (kk : ∀ (H1 : Heap) (locs1 : List Loc) (L1 : Array Slot), q_hp D cid s0.heap.size f.2.2.2 H1 → va_S (q_A s0) s.heap H1 locs1 → q_L L1 M.2.2.1 f.2.1 → W p l e R s m args below meth c H1 locs1 (f.2.2.2.2.2.1 - c0) (f.2.2.2.2.2.2 - n0) Q (F0 m f.1 L1 f.2.2.1)) : W p l e R s m args below meth c H locs (h.2.2.1 - c0) (h.2.2.2 - n0) Q (F0 m pc L st) := by
  obtain ⟨hx, hb, hr, hml, hown, hts, hlk, hnm, htab, hfr, hlo⟩ := hF
  simp only [q_stepI, q_nx] at hs
  split at hs
  · split at hs
    · exact (q_call_no hs).elim
    · cases hs
  · split at hs
    · split at hs
      · exact (q_callU_no hs).elim
      · cases hs
    · split at hs
      · rename_i a st1 q pos hsz0 hq
        split at hs
        · rename_i n g hv
          split at hs
          · rename_i hlen
            obtain ⟨⟨⟨hlen, ho⟩, hg1, hcat⟩, hfit⟩ := hlen
            subst hlen
            cases hs
            have hsz := hH.1 q hsz0
            have h8 : (st1.map fun v => v.category).sum ≤ 8 := hcat
            obtain ⟨c1, c2, c3, c4, c5⟩ := q_clw
            have hcl : va_Nw (.castable "[B" "java/lang/Cloneable") s := va_Nw.warmC hY.1 (va_Nw.of rfl (hG.2.2.2.2.1 _ c5 rfl))
            refine q_cloneK hx hb (hml.trans hL.2.1.symm) hown (q_word hts (q_cln_ok _ ho _ (q_lk_mem hq)) rfl) (hts _ c1 rfl) (hts _ c2 rfl) (hts _ c3 rfl) (hts _ c4 rfl) hcl ((q_K hG hY).2 4 _ (q_tys_at cid 4 (by decide))).1 (q_cell hH (q_cl1_some hv)) (q_fcB hG hY) hfit (by omega) (by omega) (by have := hbd.2.2.1; dsimp only [q_al] at this; omega) (by have := hbd.2.2.2; dsimp only [q_al] at this; omega) hd (fun H1 e1 e2 e3 => ?_)
            subst hsz
            rw [show h.2.2.1 - c0 + 1 = h.2.2.1 + 1 - c0 by omega, show h.2.2.2 - n0 + n = h.2.2.2 + n - n0 by omega]
            exact kk H1 locs L (q_hp_new hH rfl e2 (q_b0 hY hS) e3 e1) (q_S_new hS e2 e3) hL
          · cases hs
        · cases hs
      · cases hs
/-- every instruction that goes on in the same frame -/
theorem q_next (hF : q_Fx p s m args meth c R M) (hG : q_G E D cid s0) (hY : q_Y s0 s) {i : Instr} {len : Nat} (hd : decode M.2.1 pc = .ok (i, len)) (hs : q_stepI E M i len pc ls st h = some (.inl f)) (hbd : c0 ≤ h.2.2.1 ∧ n0 ≤ h.2.2.2 ∧ f.2.2.2.2.2.1 - c0 ≤ R.cells ∧ f.2.2.2.2.2.2 - n0 ≤ R.slots) (hH : q_hp D cid s0.heap.size h H) (hS : va_S (q_A s0) s.heap H locs) (hL : q_L L M.2.2.1 ls) (kk : ∀ (H1 : Heap) (locs1 : List Loc) (L1 : Array Slot), q_hp D cid s0.heap.size f.2.2.2 H1 → va_S (q_A s0) s.heap H1 locs1 → q_L L1 M.2.2.1 f.2.1 → W p l e R s m args below meth c H1 locs1 (f.2.2.2.2.2.1 - c0) (f.2.2.2.2.2.2 - n0) Q (F0 m f.1 L1 f.2.2.1)) : W p l e R s m args below meth c H locs (h.2.2.1 - c0) (h.2.2.2 - n0) Q (F0 m pc L st) := by
  cases i
  case iconst => exact q_n_iconst hF hG hY hd hs hbd hH hS hL kk
  case bipush => exact q_n_bipush hF hG hY hd hs hbd hH hS hL kk
  case sipush => exact q_n_sipush hF hG hY hd hs hbd hH hS hL kk
  case lconst => exact q_n_lconst hF hG hY hd hs hbd hH hS hL kk
  case iadd => exact q_n_iadd hF hG hY hd hs hbd hH hS hL kk
  case isub => exact q_n_isub hF hG hY hd hs hbd hH hS hL kk
  case imul => exact q_n_imul hF hG hY hd hs hbd hH hS hL kk
  case iand => exact q_n_iand hF hG hY hd hs hbd hH hS hL kk
  case ior => exact q_n_ior hF hG hY hd hs hbd hH hS hL kk
  case ishl => exact q_n_ishl hF hG hY hd hs hbd hH hS hL kk
  case ishr => exact q_n_ishr hF hG hY hd hs hbd hH hS hL kk
  case land => exact q_n_land hF hG hY hd hs hbd hH hS hL kk
  case lor => exact q_n_lor hF hG hY hd hs hbd hH hS hL kk
  case lxor => exact q_n_lxor hF hG hY hd hs hbd hH hS hL kk
  case lshl => exact q_n_lshl hF hG hY hd hs hbd hH hS hL kk
  case lushr => exact q_n_lushr hF hG hY hd hs hbd hH hS hL kk
  case i2l => exact q_n_i2l hF hG hY hd hs hbd hH hS hL kk
  case i2c => exact q_n_i2c hF hG hY hd hs hbd hH hS hL kk
  case i2b => exact q_n_i2b hF hG hY hd hs hbd hH hS hL kk
  case i2f => exact q_n_i2f hF hG hY hd hs hbd hH hS hL kk
  case i2d => exact q_n_i2d hF hG hY hd hs hbd hH hS hL kk
  case f2d => exact q_n_f2d hF hG hY hd hs hbd hH hS hL kk
  case fdiv => exact q_n_fdiv hF hG hY hd hs hbd hH hS hL kk
  case ddiv => exact q_n_ddiv hF hG hY hd hs hbd hH hS hL kk
  case fcmp => exact q_n_fcmp hF hG hY hd hs hbd hH hS hL kk
  case dcmp => exact q_n_dcmp hF hG hY hd hs hbd hH hS hL kk
  case fconst => exact q_n_fconst hF hG hY hd hs hbd hH hS hL kk
  case dconst => exact q_n_dconst hF hG hY hd hs hbd hH hS hL kk
  case ldc => exact q_n_ldc hF hG hY hd hs hbd hH hS hL kk
  case ldc_w => exact q_n_ldc_w hF hG hY hd hs hbd hH hS hL kk
  case aconst_null => exact q_n_aconst_null hF hG hY hd hs hbd hH hS hL kk
  case ifnonnull => exact q_n_ifnonnull hF hG hY hd hs hbd hH hS hL kk
  case ifnull => exact q_n_ifnull hF hG hY hd hs hbd hH hS hL kk
  case iushr => exact q_n_iushr hF hG hY hd hs hbd hH hS hL kk
  case ineg => exact q_n_ineg hF hG hY hd hs hbd hH hS hL kk
  case lmul => exact q_n_lmul hF hG hY hd hs hbd hH hS hL kk
  case ladd => exact q_n_ladd hF hG hY hd hs hbd hH hS hL kk
  case checkcast => exact q_n_checkcast hF hG hY hd hs hbd hH hS hL kk
  case lcmp => exact q_n_lcmp hF hG hY hd hs hbd hH hS hL kk
  case idiv => exact q_n_idiv hF hG hY hd hs hbd hH hS hL kk
  case irem => exact q_n_irem hF hG hY hd hs hbd hH hS hL kk
  case dup => exact q_n_dup hF hG hY hd hs hbd hH hS hL kk
  case dup2 => exact q_n_dup2 hF hG hY hd hs hbd hH hS hL kk
  case pop => exact q_n_pop hF hG hY hd hs hbd hH hS hL kk
  case fload => exact q_n_fload hF hG hY hd hs hbd hH hS hL kk
  case dload => exact q_n_dload hF hG hY hd hs hbd hH hS hL kk
  case iload_n => exact q_n_iload_n hF hG hY hd hs hbd hH hS hL kk
  case iload => exact q_n_iload hF hG hY hd hs hbd hH hS hL kk
  case lload_n => exact q_n_lload_n hF hG hY hd hs hbd hH hS hL kk
  case lload => exact q_n_lload hF hG hY hd hs hbd hH hS hL kk
  case aload_n => exact q_n_aload_n hF hG hY hd hs hbd hH hS hL kk
  case aload => exact q_n_aload hF hG hY hd hs hbd hH hS hL kk
  case istore_n => exact q_n_istore_n hF hG hY hd hs hbd hH hS hL kk
  case istore => exact q_n_istore hF hG hY hd hs hbd hH hS hL kk
  case astore_n => exact q_n_astore_n hF hG hY hd hs hbd hH hS hL kk
  case astore => exact q_n_astore hF hG hY hd hs hbd hH hS hL kk
  case lstore_n => exact q_n_lstore_n hF hG hY hd hs hbd hH hS hL kk
  case fstore => exact q_n_fstore hF hG hY hd hs hbd hH hS hL kk
  case dstore => exact q_n_dstore hF hG hY hd hs hbd hH hS hL kk
  case lstore => exact q_n_lstore hF hG hY hd hs hbd hH hS hL kk
  case iinc => exact q_n_iinc hF hG hY hd hs hbd hH hS hL kk
  case ldc2_w => exact q_n_ldc2_w hF hG hY hd hs hbd hH hS hL kk
  case goto => exact q_n_goto hF hG hY hd hs hbd hH hS hL kk
  case ifCond k off =>
    cases k
    case eq => exact q_n_ifCond_eq hF hG hY hd hs hbd hH hS hL kk
    case ne => exact q_n_ifCond_ne hF hG hY hd hs hbd hH hS hL kk
    case lt => exact q_n_ifCond_lt hF hG hY hd hs hbd hH hS hL kk
    case ge => exact q_n_ifCond_ge hF hG hY hd hs hbd hH hS hL kk
    case gt => exact q_n_ifCond_gt hF hG hY hd hs hbd hH hS hL kk
    case le => exact q_n_ifCond_le hF hG hY hd hs hbd hH hS hL kk
  case if_icmp k off =>
    cases k
    case eq => exact q_n_if_icmp_eq hF hG hY hd hs hbd hH hS hL kk
    case ne => exact q_n_if_icmp_ne hF hG hY hd hs hbd hH hS hL kk
    case lt => exact q_n_if_icmp_lt hF hG hY hd hs hbd hH hS hL kk
    case ge => exact q_n_if_icmp_ge hF hG hY hd hs hbd hH hS hL kk
    case gt => exact q_n_if_icmp_gt hF hG hY hd hs hbd hH hS hL kk
    case le => exact q_n_if_icmp_le hF hG hY hd hs hbd hH hS hL kk
  case tableswitch => exact q_n_tableswitch hF hG hY hd hs hbd hH hS hL kk
  case getfield => exact q_n_getfield hF hG hY hd hs hbd hH hS hL kk
  case putfield => exact q_n_putfield hF hG hY hd hs hbd hH hS hL kk
  case iaload => exact q_n_iaload hF hG hY hd hs hbd hH hS hL kk
  case baload => exact q_n_baload hF hG hY hd hs hbd hH hS hL kk
  case caload => exact q_n_caload hF hG hY hd hs hbd hH hS hL kk
  case laload => exact q_n_laload hF hG hY hd hs hbd hH hS hL kk
  case aaload => exact q_n_aaload hF hG hY hd hs hbd hH hS hL kk
  case iastore => exact q_n_iastore hF hG hY hd hs hbd hH hS hL kk
  case lastore => exact q_n_lastore hF hG hY hd hs hbd hH hS hL kk
  case bastore => exact q_n_bastore hF hG hY hd hs hbd hH hS hL kk
  case castore => exact q_n_castore hF hG hY hd hs hbd hH hS hL kk
  case arraylength => exact q_n_arraylength hF hG hY hd hs hbd hH hS hL kk
  case getstatic => exact q_n_getstatic hF hG hY hd hs hbd hH hS hL kk
  case newarray => exact q_n_newarray hF hG hY hd hs hbd hH hS hL kk
  case anewarray => exact q_n_anewarray hF hG hY hd hs hbd hH hS hL kk
  case multianewarray => exact q_n_multianewarray hF hG hY hd hs hbd hH hS hL kk
  case new => exact q_n_new hF hG hY hd hs hbd hH hS hL kk
  case aastore => exact q_n_aastore hF hG hY hd hs hbd hH hS hL kk
  case invokestatic => exact q_n_invokestatic hF hG hY hd hs hbd hH hS hL kk
  case invokespecial => exact q_n_invokespecial hF hG hY hd hs hbd hH hS hL kk
  case invokevirtual => exact q_n_invokevirtual hF hG hY hd hs hbd hH hS hL kk
  case ireturn => simp only [q_stepI] at hs; split at hs <;> (try split at hs) <;> cases hs
  case lreturn => simp only [q_stepI] at hs; split at hs <;> (try split at hs) <;> cases hs
  case freturn => simp only [q_stepI] at hs; split at hs <;> (try split at hs) <;> cases hs
  case dreturn => simp only [q_stepI] at hs; split at hs <;> (try split at hs) <;> cases hs
  case return_ => simp only [q_stepI] at hs; split at hs <;> (try split at hs) <;> cases hs
  case areturn => simp only [q_stepI] at hs; split at hs <;> (try split at hs) <;> cases hs
  all_goals (exact absurd hs (by simp [q_stepI]))
end QQ
end
section
/-! calls, ends, throws: the abstract machine's runs are the machine's -/
def q_ws (M : q_M) : List Cond := q_cw M :: lw_tbl.filter goodWord
def q_rm (M : q_M) (mc ms : Nat) : Room := { frames := q_hgt M, cells := mc, slots := ms, locals := 64 * (q_hgt M + 2) }
theorem q_cw_good (M : q_M) : goodWord (q_cw M) = true := by
  unfold q_cw
  split <;> rfl
theorem q_cw_nil {M : q_M} (h : q_hnd M = []) : q_cw M = Cond.code M.1 M.2.1 M.2.2.1 (q_ret M) := by
  unfold q_cw
  rw [show M.2.2.2.2.2.2.2 = [] from h]
theorem q_cw_cons {M : q_M} {a b} (h : q_hnd M = a :: b) : q_cw M = Cond.codeWith M.1 M.2.1 M.2.2.1 (q_ret M) (q_hnd M) := by
  unfold q_cw
  rw [show M.2.2.2.2.2.2.2 = a :: b from h]
  show _ = Cond.codeWith _ _ _ _ (q_hnd M)
  rw [h]
theorem q_ws_in {M : q_M} (hM : q_mok M) : ∀ w ∈ q_ws M, w ∈ lw_tbl ∧ goodWord w = true := by
  intro w hw
  rcases List.mem_cons.mp hw with h | h
  · rw [h]; exact ⟨List.mem_of_getElem? hM.1, q_cw_good M⟩
  · exact List.mem_filter.mp h
/-- a method's start: its arguments, a later state, the heap -/
def q_Pc (D : va_G) (cid : Nat → ClassId) (s0 : State) (vs : List Value) (h : q_H) : Array Value → State → Prop := fun a U => a = vs.toArray ∧ q_Y s0 U ∧ q_hp D cid s0.heap.size h U.heap
theorem q_Pc_blind {D : va_G} {cid : Nat → ClassId} {s0 : State} {vs : List Value} {h : q_H} : FrameBlind (q_Pc D cid s0 vs h) := fun _ _ _ _ q => q
/-- a method's end: r and the heap h' -/
def q_Qc (D : va_G) (cid : Nat → ClassId) (s0 : State) (r : q_R) (h' : q_H) : Array Value → State → Outcome → State → Prop := fun _ st o t => (∃ v, r = .inl v ∧ o = .returned v) ∧ va_F (q_A s0) st t ∧ q_hp D cid s0.heap.size h' t.heap
def q_XC (D : va_G) (cid : Nat → ClassId) (s0 : State) (r : q_R) (h' : q_H) : String → State → State → Prop := fun x st t => r = .inr x ∧ va_F (q_A s0) st t ∧ q_hp D cid s0.heap.size h' t.heap
/-- an end's instruction -/
def q_rok (i : Instr) (ret : Option FieldType) : Option Value → Prop
  | none => i = .return_ ∧ ret = none
  | some (.int v) => i = .ireturn ∧ ∃ ty, ret = some ty ∧ narrow ty (.int v) = .int v
  | some (.long _) => i = .lreturn ∧ ret = some .long
  | some (.float _) => i = .freturn ∧ ret = some .float
  | some (.double _) => i = .dreturn ∧ ret = some .double
  | some (.ref _) => i = .areturn ∧ ∃ rt, ret = some rt ∧ ((∃ n, rt = .object n) ∨ ∃ t, rt = .array t)
  | _ => False
section QS
variable {p : Program} {l : Launch} {e : Env} {R : Room} {s s0 : State} {m : MethodId} {args : Array Value} {below : List Frame} {meth : Method} {c : Code} {H : Heap} {locs : List Loc} {Q : State → Prop} {cells slots : Nat} {rest : List Value}
variable {E : q_E} {D : va_G} {cid : Nat → ClassId} {M : q_M} {pc : Nat} {ls st : List Value} {h : q_H} {L : Array Slot} {f : q_F} {c0 n0 : Nat}
theorem q_hp_keep {h1 : q_H} {H1 : Heap} (hH : q_hp D cid s0.heap.size h1 H) (hz : H1.size = H.size + 1) (ho : ∀ q : Nat, q < H.size → H1[q]? = H[q]?) {k1 k2 : Nat} : q_hp D cid s0.heap.size (h1.1, h1.2.1.map (· + 1), k1, k2) H1 :=
  ⟨fun t ht => by
    obtain ⟨u, hu, rfl⟩ := Option.map_eq_some_iff.mp ht
    rw [hz, hH.1 u hu], fun a e ha => ⟨(hH.2 a e ha).1, (hH.2 a e ha).2.kept (ho a (hH.2 a e ha).2.lt)⟩⟩
/-- what the frame owes at its end -/
def q_End (p : Program) (l : Launch) (e : Env) (R : Room) (s s0 : State) (m : MethodId) (args : Array Value) (below : List Frame) (meth : Method) (c : Code) (Q : State → Prop) (D : va_G) (cid : Nat → ClassId) (M : q_M) (c0 n0 : Nat) (r : q_R) (h' : q_H) : Prop :=
  (∀ v, r = .inl v → ∀ (H1 : Heap) (locs1 : List Loc) (L1 : Array Slot) (pc1 : Nat) (i : Instr), q_hp D cid s0.heap.size h' H1 → va_S (q_A s0) s.heap H1 locs1 → decode M.2.1 pc1 = .ok (i, 1) → q_rok i (q_ret M) v → W p l e R s m args below meth c H1 locs1 (h'.2.2.1 - c0) (h'.2.2.2 - n0) Q (F0 m pc1 L1 v.toList)) ∧
  (∀ x, r = .inr x → ∀ (H1 : Heap) (locs1 : List Loc) (L1 : Array Slot) (pc1 : Nat) (st1 : List Value) (h1 : q_H) (ix ic : Nat) (ps : Nat × Nat), h' = (h1.1, h1.2.1.map (· + 1), h1.2.2.1 + 1, h1.2.2.2 + 6) → c0 ≤ h1.2.2.1 → n0 ≤ h1.2.2.2 → q_hp D cid s0.heap.size h1 H1 → va_S (q_A s0) s.heap H1 locs1 → L1.size = c.maxLocals → q_own M < 10 → q_lk (q_exc (q_own M)) ix = some (x, ic, ps) → decode M.2.1 pc1 = .ok (.new ix, 3) → q_thr M pc1 ic = true → q_hnd M = [] → q_cat st1 ≤ 8 → 7 ≤ q_hgt M →
    W p l e R s m args below meth c H1 locs1 (h1.2.2.1 - c0) (h1.2.2.2 - n0) Q (F0 m pc1 L1 st1)) ∧
  (∀ x, r = .inr x → ∀ (H1 : Heap) (locs1 : List Loc) (L1 : Array Slot) (pc1 : Nat) (st1 : List Value) (q : Addr) (ce : Cell), q_hp D cid s0.heap.size h' H1 → va_S (q_A s0) s.heap H1 locs1 → H1[q]? = some ce → ce.vm = .none → s.vm.findClass x = some ce.cls → q_hnd M = [] → vx_W p l e R s m args below meth c H1 locs1 (h'.2.2.1 - c0) (h'.2.2.2 - n0) Q (F0 m pc1 L1 st1) q)
theorem q_up2 {a : Nat} {x : va_E} : (q_up h a x).2 = h.2 := rfl
theorem q_g_pf {a ci k : Nat} {v : Value} {h' : q_H} (hv : q_pf h a ci k v = some h') : h'.2 = h.2 := by obtain ⟨_, _, _, rfl⟩ := q_pf_some hv; rfl
theorem q_g_sI {t a : Nat} {i x : Int32} {h' : q_H} (hv : q_sI h t a i x = some h') : h'.2 = h.2 := by obtain ⟨_, _, _, _, rfl⟩ := q_sI_some hv; rfl
theorem q_g_sL {a : Nat} {i : Int32} {x : Int64} {h' : q_H} (hv : q_sL h a i x = some h') : h'.2 = h.2 := by obtain ⟨_, _, _, _, rfl⟩ := q_sL_some hv; rfl
theorem q_g_sQ {a v : Nat} {i : Int32} {h' : q_H} (hv : q_sQ h a i v = some h') : h'.2 = h.2 := by obtain ⟨_, _, _, _, _, _, _, _, rfl⟩ := q_sQ_some hv; rfl
theorem q_g_cpy {a0 a : Nat} {sp dp n : Int32} {h' : q_H} (hv : q_cpy E h a0 sp a dp n = some h') : h'.2 = h.2 := by
  unfold q_cpy at hv
  repeat' (first | (cases hv; done) | (cases hv; rfl) | (split at hv))
theorem q_g_eq {h1 h2 : q_H} (e : h2.2 = h1.2) : h1.2.2.1 ≤ h2.2.2.1 ∧ h1.2.2.2 ≤ h2.2.2.2 := by rw [e]; exact ⟨Nat.le_refl _, Nat.le_refl _⟩
theorem q_g_al {a n : Nat} {x : va_E} : h.2.2.1 ≤ (q_al h a x n).2.2.1 ∧ h.2.2.2 ≤ (q_al h a x n).2.2.2 := ⟨Nat.le_succ _, Nat.le_add_right _ _⟩
theorem q_g_alm {a n k : Nat} : h.2.2.1 ≤ (q_alm h a n k).2.2.1 ∧ h.2.2.2 ≤ (q_alm h a n k).2.2.2 := ⟨by show _ ≤ _ + 1 + n; omega, by show _ ≤ _ + n + n * k; omega⟩
theorem q_g_go {off : Int} (hs : q_go pc off ls st h = some (.inl f)) : h.2.2.1 ≤ f.2.2.2.2.2.1 ∧ h.2.2.2 ≤ f.2.2.2.2.2.2 := by
  obtain ⟨t, -, rfl⟩ := q_go_some hs
  exact ⟨Nat.le_refl _, Nat.le_refl _⟩
theorem q_g_br {b : Bool} {off : Int} (hs : q_br b pc off ls st h = some (.inl f)) : h.2.2.1 ≤ f.2.2.2.2.2.1 ∧ h.2.2.2 ≤ f.2.2.2.2.2.2 := by
  unfold q_br q_nx q_if at hs
  split at hs
  · cases b <;> cases hs <;> exact ⟨Nat.le_refl _, Nat.le_refl _⟩
  · cases hs
/-- the rooms only grow -/
theorem q_grow {i : Instr} {len : Nat} (hs : q_stepI E M i len pc ls st h = some (.inl f)) : h.2.2.1 ≤ f.2.2.2.2.2.1 ∧ h.2.2.2 ≤ f.2.2.2.2.2.2 := by
  cases i <;> simp only [q_stepI, reduceCtorEq] at hs
  all_goals (repeat' (first | (exact q_g_go hs) | (exact q_g_br hs) | (exact (q_call_no hs).elim) | (exact (q_callU_no hs).elim) | (cases hs; done) | (unfold q_nx at hs; cases hs; first | exact ⟨Nat.le_refl _, Nat.le_refl _⟩ | exact q_g_al | exact q_g_alm | exact q_g_eq (q_g_pf (by assumption)) | exact q_g_eq (q_g_sI (by assumption)) | exact q_g_eq (q_g_sL (by assumption)) | exact q_g_eq (q_g_sQ (by assumption)) | exact q_g_eq (q_g_cpy (by assumption))) | (split at hs)))
end QS
section QT
variable {p : Program} {l : Launch} {e : Env} {R : Room} {s s0 : State} {m : MethodId} {args : Array Value} {below : List Frame} {meth : Method} {c : Code} {H : Heap} {locs : List Loc} {Q : State → Prop} {cells slots : Nat} {rest : List Value}
variable {E : q_E} {D : va_G} {cid : Nat → ClassId} {M : q_M} {pc : Nat} {ls st : List Value} {h : q_H} {L : Array Slot} {f : q_F} {c0 n0 : Nat}
theorem q_end_inv {i : Instr} {len : Nat} {r : q_R} {h' : q_H} (hs : q_stepI E M i len pc ls st h = some (.inr (.inr (r, h')))) :
    (∃ v, r = .inl v ∧ h' = h ∧ len = 1 ∧ q_rok i (q_ret M) v ∧ st = v.toList) ∨
    (∃ x ix ic ps, r = .inr x ∧ i = .new ix ∧ len = 3 ∧ h' = (h.1, h.2.1.map (· + 1), h.2.2.1 + 1, h.2.2.2 + 6) ∧ q_own M < 10 ∧ q_lk (q_exc (q_own M)) ix = some (x, ic, ps) ∧ q_thr M pc ic = true ∧ q_hnd M = [] ∧ q_cat st ≤ 8 ∧ 7 ≤ q_hgt M) := by
  cases i
  case ireturn =>
    simp only [q_stepI] at hs
    split at hs
    · rename_i v ty hty
      split at hs
      · rename_i hc
        cases hs
        exact Or.inl ⟨some (.int v), rfl, rfl, hc.1, ⟨rfl, ty, hty, hc.2⟩, rfl⟩
      · cases hs
    · cases hs
  case lreturn =>
    simp only [q_stepI] at hs
    split at hs
    · rename_i v hty
      split at hs
      · rename_i hc
        cases hs
        exact Or.inl ⟨some (.long v), rfl, rfl, hc, ⟨rfl, hty⟩, rfl⟩
      · cases hs
    · cases hs
  case freturn =>
    simp only [q_stepI] at hs
    split at hs
    · rename_i v hty
      split at hs
      · rename_i hc
        cases hs
        exact Or.inl ⟨some (.float v), rfl, rfl, hc, ⟨rfl, hty⟩, rfl⟩
      · cases hs
    · cases hs
  case dreturn =>
    simp only [q_stepI] at hs
    split at hs
    · rename_i v hty
      split at hs
      · rename_i hc
        cases hs
        exact Or.inl ⟨some (.double v), rfl, rfl, hc, ⟨rfl, hty⟩, rfl⟩
      · cases hs
    · cases hs
  case return_ =>
    simp only [q_stepI] at hs
    split at hs
    · rename_i hty
      split at hs
      · rename_i hc
        cases hs
        exact Or.inl ⟨none, rfl, rfl, hc, ⟨rfl, hty⟩, rfl⟩
      · cases hs
    · cases hs
  case areturn =>
    simp only [q_stepI] at hs
    split at hs
    · rename_i v n hty
      split at hs
      · rename_i hc
        cases hs
        exact Or.inl ⟨some (.ref v), rfl, rfl, hc, ⟨rfl, _, hty, Or.inl ⟨_, rfl⟩⟩, rfl⟩
      · cases hs
    · rename_i v n hty
      split at hs
      · rename_i hc
        cases hs
        exact Or.inl ⟨some (.ref v), rfl, rfl, hc, ⟨rfl, _, hty, Or.inr ⟨_, rfl⟩⟩, rfl⟩
      · cases hs
    · cases hs
  case new ix =>
    simp only [q_stepI] at hs
    split at hs
    · split at hs
      · split at hs
        · cases hs
        · cases hs
      · cases hs
    · split at hs
      · rename_i x ic ps1 ps2 hq
        split at hs
        · rename_i hc
          cases hs
          exact Or.inr ⟨x, ix, ic, (ps1, ps2), rfl, rfl, hc.1.1.1, rfl, hc.1.1.2, hq, hc.2.1, hc.2.2.1, hc.2.2.2, hc.1.2⟩
        · cases hs
      · cases hs
  all_goals (exfalso; simp only [q_stepI, reduceCtorEq] at hs)
  all_goals (repeat' (first | (cases hs; done) | (unfold q_nx at hs; cases hs; done) | (unfold q_go q_nx at hs; split at hs <;> cases hs; done) | (unfold q_br q_nx q_if at hs; split at hs <;> (try (rename_i b; cases hb : q_cond _ _ _ <;> rw [hb] at hs)) <;> cases hs; done) | (obtain ⟨-, j, vs, rest, hx, -⟩ := q_call_inv hs; cases hx; done) | (obtain ⟨-, b, ws, rest, fs, hx, -⟩ := q_callU_inv hs; cases hx; done) | (split at hs)))
end QT
end
section
/-! calls: a callee's contract out of its run, and the caller's step -/
section QU
variable {p : Program} {l : Launch} {e : Env} {R : Room} {s s0 : State} {m : MethodId} {args : Array Value} {below : List Frame} {meth : Method} {c : Code} {H : Heap} {locs : List Loc} {Q : State → Prop} {cells slots mc ms : Nat} {rest : List Value}
variable {E : q_E} {D : va_G} {cid : Nat → ClassId} {M M' : q_M} {pc : Nat} {ls st vs : List Value} {h h' : q_H} {L : Array Slot} {f : q_F} {c0 n0 : Nat} {r : q_R}
theorem q_call_step {i : Instr} {len j : Nat} (hs : q_stepI E M i len pc ls st h = some (.inr (.inl (M', j, vs, rest)))) :
    (∃ ix k n ps, len = 3 ∧ ((k = 0 ∧ i = .invokestatic ix) ∨ (k = 1 ∧ i = .invokevirtual ix) ∨ (k = 2 ∧ i = .invokespecial ix)) ∧ q_lk (q_cal (q_own M)) ix = some (k, n, M', ps) ∧ q_call E M k n M' st h = some (.inr (.inl (M', j, vs, rest)))) ∨
    (∃ ix k n x ps, len = 3 ∧ ((k = 3 ∧ i = .invokevirtual ix) ∨ (k = 4 ∧ i = .invokespecial ix)) ∧ q_own M < 17 ∧ q_lk (q_cav (q_own M)) ix = some (k, n, x, M', ps) ∧ q_callU M n M' st h = some (.inr (.inl (M', j, vs, rest)))) := by
  cases i
  case invokestatic ix =>
    simp only [q_stepI] at hs
    split at hs
    · rename_i k n M1 p1 p2 p3 p4 hq
      split at hs
      · rename_i hc
        obtain ⟨-, j1, vs1, rest1, hx, -⟩ := q_call_inv hs
        cases hx
        exact Or.inl ⟨ix, k, n, _, hc.1, Or.inl ⟨hc.2, rfl⟩, hq, by rw [hc.2]; exact hs⟩
      · cases hs
    · split at hs
      · split at hs
        · split at hs
          · unfold q_nx at hs; cases hs
          · cases hs
        · cases hs
      · split at hs
        · split at hs
          · unfold q_nx at hs; cases hs
          · cases hs
        · cases hs
      · cases hs
  case invokevirtual ix =>
    simp only [q_stepI] at hs
    split at hs
    · rename_i k n M1 p1 p2 p3 p4 hq
      split at hs
      · rename_i hc
        obtain ⟨-, j1, vs1, rest1, hx, -⟩ := q_call_inv hs
        cases hx
        exact Or.inl ⟨ix, k, n, _, hc.1, Or.inr (Or.inl ⟨hc.2, rfl⟩), hq, by rw [hc.2]; exact hs⟩
      · cases hs
    · split at hs
      · rename_i k n x1 M1 p1 p2 p3 p4 p5 p6 hq
        split at hs
        · rename_i hc
          obtain ⟨-, b, ws, rest1, fs, hx, -⟩ := q_callU_inv hs
          cases hx
          exact Or.inr ⟨ix, k, n, _, _, hc.1.1, Or.inl ⟨hc.1.2, rfl⟩, hc.2, hq, hs⟩
        · cases hs
      · split at hs
        · split at hs
          · split at hs
            · unfold q_nx at hs; cases hs
            · cases hs
          · cases hs
        · cases hs
  case invokespecial ix =>
    simp only [q_stepI] at hs
    split at hs
    · rename_i k n M1 p1 p2 p3 p4 hq
      split at hs
      · rename_i hc
        obtain ⟨-, j1, vs1, rest1, hx, -⟩ := q_call_inv hs
        cases hx
        exact Or.inl ⟨ix, k, n, _, hc.1, Or.inr (Or.inr ⟨hc.2, rfl⟩), hq, by rw [hc.2]; exact hs⟩
      · cases hs
    · split at hs
      · rename_i k n x1 M1 p1 p2 p3 p4 p5 p6 hq
        split at hs
        · rename_i hc
          obtain ⟨-, b, ws, rest1, fs, hx, -⟩ := q_callU_inv hs
          cases hx
          exact Or.inr ⟨ix, k, n, _, _, hc.1.1, Or.inr ⟨hc.1.2, rfl⟩, hc.2, hq, hs⟩
        · cases hs
      · split at hs
        · split at hs
          · unfold q_nx at hs; cases hs
          · cases hs
        · cases hs
  all_goals (exfalso; simp only [q_stepI, reduceCtorEq] at hs)
  all_goals (repeat' (first | (cases hs; done) | (unfold q_nx at hs; cases hs; done) | (unfold q_go q_nx at hs; split at hs <;> cases hs; done) | (unfold q_br q_nx q_if at hs; split at hs <;> (try (cases hb : q_cond _ _ _ <;> rw [hb] at hs)) <;> cases hs; done) | (split at hs)))
/-- after a call that may throw -/
theorem q_back (hr : vx_Run p l e R s m args below meth c H locs cells slots mc ms (F0 m pc L st) rest (q_Qc D cid s0 r h' vs.toArray) (q_XC D cid s0 r h') (q_A s0)) (hS : va_S (q_A s0) s.heap H locs)
    (kr : ∀ v, r = .inl v → ∀ (H1 : Heap) (locs1 : List Loc), q_hp D cid s0.heap.size h' H1 → va_S (q_A s0) s.heap H1 locs1 → W p l e R s m args below meth c H1 locs1 (cells + mc) (slots + ms) Q (F0 m (pc + 3) L (v.toList ++ rest)))
    (kx : ∀ x, r = .inr x → ∀ (H1 : Heap) (locs1 : List Loc) (q : Addr) (ce : Cell), q_hp D cid s0.heap.size h' H1 → va_S (q_A s0) s.heap H1 locs1 → H1[q]? = some ce → ce.vm = .none → s.vm.findClass x = some ce.cls → vx_W p l e R s m args below meth c H1 locs1 (cells + mc) (slots + ms) Q (F0 m pc L rest) q) :
    W p l e R s m args below meth c H locs cells slots Q (F0 m pc L st) := by
  intro T hT X
  have keep : ∀ {st₀ t T' : State} {L1 : List Loc}, st₀.heap = H → T'.heap = t.heap → va_F (q_A s0) st₀ t → (∀ q ∈ L1, q_A s0 q.base) → va_S (q_A s0) s.heap T'.heap (locs ++ L1) := by
    intro st₀ t T' L1 h0 e1 hF hL
    obtain ⟨g1, g2⟩ := hF
    rw [h0] at g1 g2
    refine ⟨by rw [e1]; exact Nat.le_trans hS.1 g1, fun q k1 k2 => ?_, fun z hz => ?_⟩
    · rw [e1, g2 q (Nat.lt_of_lt_of_le k1 hS.1) k2]
      exact hS.2.1 q k1 k2
    · rcases List.mem_append.mp hz with k | k
      · exact hS.2.2 z k
      · exact hL z k
  rcases hr T hT X with ⟨v, st₀, t, T', L1, h0, X', hL, e1, e2, ⟨⟨v2, hr2, hv2⟩, hF, hH⟩, st1⟩ | ⟨q, st₀, t, T', L1, x, ce, h0, X', hL, e1, e2, ⟨hr2, hF, hH⟩, hce, hcv, hcl, st1⟩
  · cases hv2
    obtain ⟨t2, a1, b1⟩ := kr v hr2 T'.heap (locs ++ L1) (by rw [e1]; exact hH) (keep h0 e1 hF hL) T' rfl X'
    exact ⟨t2, st1 t2 a1, b1⟩
  · obtain ⟨t2, a1, b1⟩ := kx x hr2 T'.heap (locs ++ L1) q ce (by rw [e1]; exact hH) (keep h0 e1 hF hL) (by rw [e1]; exact hce) hcv hcl T' rfl X'
    exact ⟨t2, st1.trans a1, b1⟩
/-- after a constructor -/
theorem q_backI (hr : va_Run p l e R s m args below meth c H locs cells slots mc ms (F0 m pc L st) rest (q_Qc D cid s0 r h' vs.toArray) (q_A s0)) (hS : va_S (q_A s0) s.heap H locs)
    (kr : ∀ v, r = .inl v → ∀ (H1 : Heap) (locs1 : List Loc), q_hp D cid s0.heap.size h' H1 → va_S (q_A s0) s.heap H1 locs1 → W p l e R s m args below meth c H1 locs1 (cells + mc) (slots + ms) Q (F0 m (pc + 3) L (v.toList ++ rest))) :
    W p l e R s m args below meth c H locs cells slots Q (F0 m pc L st) := by
  intro T hT X
  obtain ⟨v, st₀, t, T', L1, h0, X', hL, e1, e2, ⟨⟨v2, hr2, hv2⟩, hF, hH⟩, st1⟩ := hr T hT X
  cases hv2
  obtain ⟨g1, g2⟩ := hF
  rw [h0] at g1 g2
  obtain ⟨t2, a1, b1⟩ := kr v hr2 T'.heap (locs ++ L1) (by rw [e1]; exact hH) ⟨by rw [e1]; exact Nat.le_trans hS.1 g1, fun q k1 k2 => by
      rw [e1, g2 q (Nat.lt_of_lt_of_le k1 hS.1) k2]
      exact hS.2.1 q k1 k2, fun z hz => by
      rcases List.mem_append.mp hz with k | k
      · exact hS.2.2 z k
      · exact hL z k⟩ T' rfl X'
  exact ⟨t2, st1 t2 a1, b1⟩
/-- a method's locals at its entry -/
theorem q_exp_len : ∀ vs : List Value, (q_exp vs).length = (lg_sl vs).length
  | [] => rfl
  | v :: vs => by
    have ih := q_exp_len vs
    unfold q_exp lg_sl at ih ⊢
    rw [List.flatMap_cons, List.flatMap_cons, List.length_append, List.length_append, ih]
    split <;> rfl
theorem q_exp_at : ∀ (vs : List Value) (k i : Nat) (v : Value), (q_exp vs)[i]? = some v → v ≠ .null → (k + i, v) ∈ lv_args k vs
  | [], k, i, v, hi, hv => by simp [q_exp] at hi
  | w :: vs, k, i, v, hi, hv => by
    have ih := q_exp_at vs
    have e : q_exp (w :: vs) = (if w.category = 2 then [w, .null] else [w]) ++ q_exp vs := by
      unfold q_exp
      rw [List.flatMap_cons]
    rw [e] at hi
    show (k + i, v) ∈ (k, w) :: lv_args (if w.category = 2 then k + 2 else k + 1) vs
    by_cases hc : w.category = 2
    · rw [if_pos hc] at hi ⊢
      match i, hi with
      | 0, hi => cases hi; exact List.mem_cons_self
      | 1, hi => cases hi; exact absurd rfl hv
      | i + 2, hi =>
        have hi : (q_exp vs)[i]? = some v := hi
        have := ih (k + 2) i v hi hv
        rw [show k + (i + 2) = k + 2 + i by omega]
        exact List.mem_cons_of_mem _ this
    · rw [if_neg hc] at hi ⊢
      match i, hi with
      | 0, hi => cases hi; exact List.mem_cons_self
      | i + 1, hi =>
        have hi : (q_exp vs)[i]? = some v := hi
        have := ih (k + 1) i v hi hv
        rw [show k + (i + 1) = k + 1 + i by omega]
        exact List.mem_cons_of_mem _ this
theorem q_entL (hlen : (q_exp vs).length ≤ M.2.2.1) (hl : lv_has L M.2.2.1 (lv_args 0 vs)) : q_L L M.2.2.1 (q_ent M vs) := by
  refine ⟨by unfold q_ent; rw [List.length_append, List.length_replicate]; omega, hl.1, hl.2.1, fun i v hi hv => ?_⟩
  unfold q_ent at hi
  by_cases hlt : i < (q_exp vs).length
  · rw [List.getElem?_append_left hlt] at hi
    have := hl.2.2 _ (q_exp_at vs 0 i v hi hv)
    simpa using this
  · rw [List.getElem?_append_right (Nat.not_lt.mp hlt)] at hi
    have := List.mem_of_getElem? hi
    exact absurd (List.eq_of_mem_replicate this) hv
end QU
end
section
/-! throws, contracts, and the main induction -/
/-- the exceptions of the class alone -/
def q_rte : List String := ["java/lang/RuntimeException", "java/lang/Exception"]
def q_wk : Cond → Bool
  | .declares _ => true
  | .castable _ _ => true
  | w => goodWord w
set_option maxRecDepth 100000 in
theorem q_at0 : ∀ x ∈ q_exc 7, ∀ w ∈ (Cond.classLink RX7 x.1 x.2.1 :: Cond.initialized x.2.1 :: vx_at0 RX7 x.2.2.1 x.2.1 q_rte), w ∈ lw_tbl ∧ q_wk w = true ∧ vx_ot w = true := by decide +kernel
theorem q_at1 : ∀ x ∈ q_exc 7, Bundle.fit x.2.1 = true ∧ (∀ n ∈ q_rte, Bundle.fit n = true) := by decide +kernel
theorem q_exc7 : ∀ o, o < 10 → ∀ x ∈ q_exc o, o = 7 := by
  intro o ho x hx
  match o, ho with
  | 7, _ => rfl
  | 0, _ => exact absurd hx List.not_mem_nil
  | 1, _ => exact absurd hx List.not_mem_nil
  | 2, _ => exact absurd hx List.not_mem_nil
  | 3, _ => exact absurd hx List.not_mem_nil
  | 4, _ => exact absurd hx List.not_mem_nil
  | 5, _ => exact absurd hx List.not_mem_nil
  | 6, _ => exact absurd hx List.not_mem_nil
  | 8, _ => exact absurd hx List.not_mem_nil
  | 9, _ => exact absurd hx List.not_mem_nil
section QV
variable {p : Program} {l : Launch} {e : Env} {R : Room} {s s0 : State} {m : MethodId} {args : Array Value} {below : List Frame} {meth : Method} {c : Code} {H : Heap} {locs : List Loc} {Q : State → Prop} {cells slots mc ms : Nat} {rest : List Value}
variable {E : q_E} {D : va_G} {cid : Nat → ClassId} {M M' : q_M} {pc : Nat} {ls st vs : List Value} {h h' : q_H} {L : Array Slot} {f : q_F} {c0 n0 : Nat} {r : q_R}
/-- a word of the tables, carried to a later state -/
theorem q_carry (hG : q_G E D cid s0) (hY : q_Y s0 s) (hts : ∀ w ∈ lw_tbl, goodWord w = true → w.before args s = true) {w : Cond} (hw : w ∈ lw_tbl) (hk : q_wk w = true) : w.before args s = true := by
  unfold q_wk at hk
  split at hk
  · rename_i y
    have h0 := hG.2.2.2.2.1 _ hw rfl
    have h1 : (Cond.declares y).before #[] (s0.setVm s.vm) = true := by
      rw [Cond.declares_setVm hY.1.alike]
      exact h0
    exact va_tabs rfl (rfl : (s0.setVm s.vm).vm = s.vm) h1
  · rename_i y z
    have h0 := hG.2.2.2.2.1 _ hw rfl
    have h1 : (Cond.castable y z).before #[] (s0.setVm s.vm) = true := by
      rw [Cond.castable_setVm hY.1.alike]
      exact h0
    exact va_tabs rfl (rfl : (s0.setVm s.vm).vm = s.vm) h1
  · exact hts w hw hk
theorem q_thr_at {ic : Nat} (ht : q_thr M pc ic = true) : decode M.2.1 (pc + 3) = .ok (.dup, 1) ∧ decode M.2.1 (pc + 4) = .ok (.invokespecial ic, 3) ∧ decode M.2.1 (pc + 7) = .ok (.athrow, 1) := by
  unfold q_thr at ht
  split at ht
  · rename_i k a1 a2 a3
    rw [Nat.eq_of_beq_eq_true ht] at a2
    exact ⟨a1, a2, a3⟩
  · cases ht
/-- a method's own end -/
theorem q_end_meth (hF : q_Fx p s m args meth c R M) (htab : c.exceptionTable.toList = tableOf (q_hnd M)) (hG : q_G E D cid s0) (hY : q_Y s0 s) (hlt : l.stackTraces = false) (hRc : h'.2.2.1 - h.2.2.1 ≤ R.cells) (hRs : h'.2.2.2 - h.2.2.2 ≤ R.slots) :
    q_End p l e R s s0 m args below meth c (vx_MQ below (q_Qc D cid s0 r h') (q_XC D cid s0 r h') args s (h'.2.2.1 - h.2.2.1) (h'.2.2.2 - h.2.2.2) (q_A s0)) D cid M h.2.2.1 h.2.2.2 r h' := by
  obtain ⟨hx, hb, hr, hml, hown, hts, hlk, hnm, -, hfr, hlo⟩ := hF
  refine ⟨fun v hv H1 locs1 L1 pc1 i hH hS hd hi => ?_, fun x hxr H1 locs1 L1 pc1 st1 h1 ix ic ps he hc1 hn1 hH hS hsz ho hq hd hth hnil hcat hgt => ?_, fun x hxr H1 locs1 L1 pc1 st1 q ce hH hS hce hcv hcl hnil => ?_⟩
  · refine vx_ret ?_
    match v, hi with
    | none, hi =>
      obtain ⟨rfl, hret⟩ := hi
      exact W.vret hx hb (hr.trans hret) (fun t ht hW => ⟨⟨none, hv, rfl⟩, hS.F ht, by rw [ht]; exact hH⟩) hS.2.2 hd hlk
    | some (.int z), hi =>
      obtain ⟨rfl, ty, hret, hn⟩ := hi
      exact W.zret hx hb (hr.trans hret) hn (fun t ht hW => ⟨⟨_, hv, rfl⟩, hS.F ht, by rw [ht]; exact hH⟩) hS.2.2 hd hlk
    | some (.long z), hi =>
      obtain ⟨rfl, hret⟩ := hi
      exact W.lret hx hb (hr.trans hret) (fun t ht hW => ⟨⟨_, hv, rfl⟩, hS.F ht, by rw [ht]; exact hH⟩) hS.2.2 hd hlk
    | some (.float z), hi =>
      obtain ⟨rfl, hret⟩ := hi
      exact W.fret hx hb (hr.trans hret) (fun t ht hW => ⟨⟨_, hv, rfl⟩, hS.F ht, by rw [ht]; exact hH⟩) hS.2.2 hd hlk
    | some (.double z), hi =>
      obtain ⟨rfl, hret⟩ := hi
      exact W.dret hx hb (hr.trans hret) (fun t ht hW => ⟨⟨_, hv, rfl⟩, hS.F ht, by rw [ht]; exact hH⟩) hS.2.2 hd hlk
    | some (.ref z), hi =>
      obtain ⟨rfl, rt, hret, hrt⟩ := hi
      exact W.aret hx hb (hr.trans hret) hrt (Or.inr ⟨_, rfl⟩) (fun t ht hW => ⟨⟨_, hv, rfl⟩, hS.F ht, by rw [ht]; exact hH⟩) hS.2.2 hd hlk
  · have h7 := q_exc7 _ ho _ (q_lk_mem hq)
    rw [h7] at hq hown
    have hw := q_at0 _ (q_lk_mem hq)
    obtain ⟨d3, d4, d7⟩ := q_thr_at hth
    have hZ : ∀ {C n d}, vx_Zq C n d (q_A s0) s0 s0.heap → vx_Zq C n d (q_A s0) s s.heap := fun z => (z.moved hY.1.alike).kept (fun q k1 _ => hY.2.2 q k1)
    have hcar : ∀ w ∈ (Cond.classLink RX7 ix x :: Cond.initialized x :: vx_at0 RX7 ic x q_rte), w.before args s = true := fun w h => q_carry hG hY hts (hw w h).1 (hw w h).2.1
    have h8 : (st1.map fun v => v.category).sum ≤ 8 := hcat
    rw [hnil] at htab
    refine vx_throw0 (A := q_A s0) hx hb hlt hown (q_at1 _ (q_lk_mem hq)).1 (q_at1 _ (q_lk_mem hq)).2 (hcar _ List.mem_cons_self) (hcar _ (List.mem_cons_of_mem _ List.mem_cons_self)) (fun w h => hcar w (List.mem_cons_of_mem _ (List.mem_cons_of_mem _ h))) (fun w h => (hw w h).2.2) (hZ hG.2.2.2.1.1) (hZ hG.2.2.2.1.2) hS hsz hd d3 d4 d7
      (fun z hz => by rw [htab] at hz; cases hz) (by show 2 + 3 < _; omega) (by show _ + (13 * (2 + 1) + 42) ≤ _; omega) (by have := hRc; rw [he] at this; dsimp only at this; omega) (by have := hRs; rw [he] at this; dsimp only at this; omega) hlk
      (fun t hA hz ho2 => ⟨hxr, ⟨Nat.le_trans hS.1 (by omega), fun q k1 k2 => by rw [ho2 q (Nat.lt_of_lt_of_le k1 hS.1)]; exact hS.2.1 q k1 k2⟩, by rw [he]; exact q_hp_keep hH hz ho2⟩) hS.2.2 (by rw [he]; dsimp only; omega) (by rw [he]; dsimp only; omega)
  · rw [hnil] at htab
    exact vx_out (fun z hz => by rw [htab] at hz; cases hz) hlk hce hcv hcl (fun t ht hA => ⟨hxr, hS.F ht, by rw [ht]; exact hH⟩) hS.2.2 (Nat.le_refl _) (Nat.le_refl _)
end QV
end
section
/-! the main induction: what the abstract machine runs, the machine runs -/
theorem q_grow_end {E : q_E} {M : q_M} {i : Instr} {len pc : Nat} {ls st : List Value} {h : q_H} {r : q_R} {h' : q_H} (hs : q_stepI E M i len pc ls st h = some (.inr (.inr (r, h')))) : h.2.2.1 ≤ h'.2.2.1 ∧ h.2.2.2 ≤ h'.2.2.2 := by
  rcases q_end_inv hs with ⟨v, -, rfl, -⟩ | ⟨x, ix, ic, ps, -, -, -, rfl, -⟩
  · exact ⟨Nat.le_refl _, Nat.le_refl _⟩
  · exact ⟨Nat.le_succ _, Nat.le_add_right _ _⟩
theorem q_run_grow (E : q_E) : ∀ (n : Nat) (M : q_M) (pc : Nat) (ls st : List Value) (h : q_H) (r : q_R) (h' : q_H), q_run E n M pc ls st h = some (r, h') → h.2.2.1 ≤ h'.2.2.1 ∧ h.2.2.2 ≤ h'.2.2.2
  | 0, _, _, _, _, _, _, _, hr => by cases hr
  | n + 1, M, pc, ls, st, h, r, h', hr => by
    have hr : (q_step E M pc ls st h).bind (q_k (q_run E n) M pc ls h) = some (r, h') := hr
    cases e : q_step E M pc ls st h with
    | none => rw [e] at hr; cases hr
    | some x =>
      rw [e] at hr
      have hr : q_k (q_run E n) M pc ls h x = some (r, h') := hr
      unfold q_step at e
      split at e
      · rename_i i len hd
        match x, hr, e with
        | .inl f, hr, e =>
          have g1 := q_grow e
          have g2 := q_run_grow E n _ _ _ _ _ _ _ (hr : q_run E n M f.1 f.2.1 f.2.2.1 f.2.2.2 = some (r, h'))
          exact ⟨Nat.le_trans g1.1 g2.1, Nat.le_trans g1.2 g2.2⟩
        | .inr (.inr q), hr, e =>
          cases hr
          exact q_grow_end e
        | .inr (.inl q), hr, e =>
          have hr : q_bk (q_run E n) M pc ls q.2.1 q.2.2.2 (q_run E n q.1 0 (q_ent q.1 q.2.2.1) [] h) = some (r, h') := hr
          cases e1 : q_run E n q.1 0 (q_ent q.1 q.2.2.1) [] h with
          | none => rw [e1] at hr; cases hr
          | some y =>
            rw [e1] at hr
            obtain ⟨r1, h1⟩ := y
            have g1 := q_run_grow E n _ _ _ _ _ _ _ e1
            have g2 : h1.2.2.1 ≤ h'.2.2.1 ∧ h1.2.2.2 ≤ h'.2.2.2 := by
              unfold q_bk at hr
              match r1, hr with
              | .inl v, hr => exact q_run_grow E n _ _ _ _ _ _ _ hr
              | .inr z, hr =>
                dsimp only at hr
                split at hr
                · cases hr
                split at hr
                · cases hr
                · cases hr; exact ⟨Nat.le_refl _, Nat.le_refl _⟩
                · split at hr
                  · cases hr
                  · exact q_run_grow E n _ _ _ _ _ _ _ hr
            exact ⟨Nat.le_trans g1.1 g2.1, Nat.le_trans g1.2 g2.2⟩
      · cases e
theorem q_hd1_inv {o : Nat} {x : String} {pc hp : Nat} : ∀ {l : List (Nat × Nat × Nat × Nat)}, q_hd1 o x pc l = some hp → ∃ pre a b ci suf ps, l = pre ++ (a, b, hp, ci) :: suf ∧ (a ≤ pc ∧ pc < b) ∧ q_lk (q_hc o) ci = some (x, ps) ∧ q_lk' q_cst x = true ∧ ¬ ci = 0 ∧
    ∀ z ∈ pre, ¬ (z.1 ≤ pc ∧ pc < z.2.1) ∨ (¬ z.2.2.2 = 0 ∧ ∃ nm ps, q_lk (q_hc o) z.2.2.2 = some (nm, ps) ∧ q_ncb x nm = true)
  | [], h => by cases h
  | (a, b, hp1, ci) :: t, h => by
    unfold q_hd1 at h
    split at h
    · rename_i hab
      split at h
      · rename_i nm ps hq
        split at h
        · rename_i hnm
          subst hnm
          split at h
          · rename_i hc
            cases h
            exact ⟨[], a, b, ci, t, ps, rfl, hab, hq, hc.1, hc.2, fun z hz => by cases hz⟩
          · cases h
        · split at h
          · rename_i hc
            obtain ⟨pre, a1, b1, c1, suf, ps1, e1, e2, e3, e4, e5, e6⟩ := q_hd1_inv h
            refine ⟨(a, b, hp1, ci) :: pre, a1, b1, c1, suf, ps1, by rw [e1]; rfl, e2, e3, e4, e5, fun z hz => ?_⟩
            rcases List.mem_cons.mp hz with k | k
            · subst k; exact Or.inr ⟨hc.2, nm, ps, hq, hc.1⟩
            · exact e6 z k
          · cases h
      · cases h
    · rename_i hab
      obtain ⟨pre, a1, b1, c1, suf, ps1, e1, e2, e3, e4, e5, e6⟩ := q_hd1_inv h
      refine ⟨(a, b, hp1, ci) :: pre, a1, b1, c1, suf, ps1, by rw [e1]; rfl, e2, e3, e4, e5, fun z hz => ?_⟩
      rcases List.mem_cons.mp hz with k | k
      · subst k; exact Or.inl hab
      · exact e6 z k
section QZ
variable {p : Program} {l : Launch} {e : Env} {R : Room} {s s0 : State} {m : MethodId} {args : Array Value} {below : List Frame} {meth : Method} {c : Code} {H : Heap} {locs : List Loc} {Q : State → Prop} {cells slots mc ms : Nat} {rest : List Value}
variable {E : q_E} {D : va_G} {cid : Nat → ClassId} {M M' : q_M} {pc : Nat} {ls st vs : List Value} {h h' : q_H} {L : Array Slot} {f : q_F} {c0 n0 n : Nat} {r : q_R}
def q_Snd (l : Launch) (E : q_E) (D : va_G) (cid : Nat → ClassId) (s0 : State) (n : Nat) : Prop :=
  ∀ (M : q_M) (pc : Nat) (ls st : List Value) (h : q_H) (r : q_R) (h' : q_H), q_run E n M pc ls st h = some (r, h') →
    ∀ (p : Program) (e : Env) (R : Room) (s : State) (m : MethodId) (args : Array Value) (below : List Frame) (meth : Method) (c : Code) (H : Heap) (locs : List Loc) (L : Array Slot) (Q : State → Prop) (c0 n0 : Nat),
      q_Fx p s m args meth c R M → q_Y s0 s → c0 ≤ h.2.2.1 → n0 ≤ h.2.2.2 → h'.2.2.1 - c0 ≤ R.cells → h'.2.2.2 - n0 ≤ R.slots → q_hp D cid s0.heap.size h H → va_S (q_A s0) s.heap H locs → q_L L M.2.2.1 ls →
      q_End p l e R s s0 m args below meth c Q D cid M c0 n0 r h' → W p l e R s m args below meth c H locs (h.2.2.1 - c0) (h.2.2.2 - n0) Q (F0 m pc L st)
theorem q_frame {s₁ : State} (hM : q_mok M) (B : BodyLoose p l M.1 (headSpec (q_ws M) (q_rm M mc ms)) M.2.1 M.2.2.1 (q_ret M) e s m args below meth c s₁) (hml : c.maxLocals = M.2.2.1) (htab : c.exceptionTable.toList = tableOf (q_hnd M)) : q_Fx p s m args meth c (headSpec (q_ws M) (q_rm M mc ms)).room M := by
  have hts := atoms_spec (ws := q_ws M) B.pre
  have hn := findClass_of_methodNamed B.named
  rw [hM.2.2.1] at hn
  exact ⟨B.exec, B.bytes, B.returns, hml, hn, fun w h1 h2 => hts w (List.mem_cons_of_mem _ (List.mem_filter.mpr ⟨h1, h2⟩)), B.notSynchronized, fun h => (name_of_methodNamed B.named B.method).1.trans h, fun _ => htab, Nat.le_refl _, Nat.le_refl _⟩
/-- from a method's entry on -/
theorem q_enter (hSn : q_Snd l E D cid s0 n) (hr : q_run E n M 0 (q_ent M vs) [] h = some (r, h')) (hlen : (q_exp vs).length ≤ M.2.2.1) (hF : q_Fx p s m vs.toArray meth c R M) (hY : q_Y s0 s) (hRc : h'.2.2.1 - h.2.2.1 ≤ R.cells) (hRs : h'.2.2.2 - h.2.2.2 ≤ R.slots) (hH : q_hp D cid s0.heap.size h s.heap) (hE : q_End p l e R s s0 m vs.toArray below meth c Q D cid M h.2.2.1 h.2.2.2 r h') :
    W p l e R s m vs.toArray below meth c s.heap [] 0 0 Q (entryFrame m vs.toArray M.2.2.1) := by
  rw [lg_entry_eq]
  have hl := lv_entry vs (n := M.2.2.1) (by rw [← q_exp_len]; exact hlen)
  have k := hSn M 0 (q_ent M vs) [] h r h' hr p e R s m vs.toArray below meth c s.heap [] _ Q h.2.2.1 h.2.2.2 hF hY (Nat.le_refl _) (Nat.le_refl _) hRc hRs hH va_S.rf (q_entL hlen hl) hE
  rw [Nat.sub_self, Nat.sub_self] at k
  exact k
theorem q_ctX (hSn : q_Snd l E D cid s0 n) (hG : q_G E D cid s0) (hlt : l.stackTraces = false) (hM : q_mok M) (hnil : q_hnd M = []) (hlen : (q_exp vs).length ≤ M.2.2.1) (hr : q_run E n M 0 (q_ent M vs) [] h = some (r, h')) :
    vx_Met l M.1 (q_ws M) (q_rm M (h'.2.2.1 - h.2.2.1) (h'.2.2.2 - h.2.2.2)) (q_Pc D cid s0 vs h) (q_Qc D cid s0 r h') (q_XC D cid s0 r h') (h'.2.2.1 - h.2.2.1) (h'.2.2.2 - h.2.2.2) (q_A s0) := by
  refine vx_ofW (cc := M.2.1) (maxL := M.2.2.1) (ret := q_ret M) hM.2.1 (by unfold q_ws; rw [q_cw_nil hnil]) ?_
  intro p e s m args below meth c s₁ B hml htab hv
  obtain ⟨rfl, hY, hH⟩ := hv
  have ht2 : c.exceptionTable.toList = tableOf (q_hnd M) := by rw [hnil]; exact List.eq_nil_iff_forall_not_mem.mpr fun x hx => htab x hx
  have hF := q_frame hM B hml ht2
  exact q_enter hSn hr hlen hF hY (Nat.le_refl _) (Nat.le_refl _) hH (q_end_meth hF ht2 hG hY hlt (Nat.le_refl _) (Nat.le_refl _))
theorem q_ctW (hSn : q_Snd l E D cid s0 n) (hG : q_G E D cid s0) (hlt : l.stackTraces = false) (hM : q_mok M) {a : Nat × Nat × Nat × Nat} {b : List (Nat × Nat × Nat × Nat)} (hnil : q_hnd M = a :: b) (hlen : (q_exp vs).length ≤ M.2.2.1) (hr : q_run E n M 0 (q_ent M vs) [] h = some (r, h')) :
    vx_Met l M.1 (q_ws M) (q_rm M (h'.2.2.1 - h.2.2.1) (h'.2.2.2 - h.2.2.2)) (q_Pc D cid s0 vs h) (q_Qc D cid s0 r h') (q_XC D cid s0 r h') (h'.2.2.1 - h.2.2.1) (h'.2.2.2 - h.2.2.2) (q_A s0) := by
  refine vx_ofWH (cc := M.2.1) (maxL := M.2.2.1) (ret := q_ret M) (hh := q_hnd M) hM.2.1 (by unfold q_ws; rw [q_cw_cons hnil]) ?_
  intro p e s m args below meth c s₁ B hml hv
  obtain ⟨rfl, hY, hH⟩ := hv
  have hts := atoms_spec (ws := q_ws M) B.pre
  have hw : (Cond.codeWith M.1 M.2.1 M.2.2.1 (q_ret M) (q_hnd M)).before vs.toArray s = true := by
    rw [← q_cw_cons hnil]
    exact hts _ List.mem_cons_self
  have ht2 := vx_table (x := M.1) B hw
  have hF := q_frame hM B hml ht2
  exact q_enter hSn hr hlen hF hY (Nat.le_refl _) (Nat.le_refl _) hH (q_end_meth hF ht2 hG hY hlt (Nat.le_refl _) (Nat.le_refl _))
theorem q_ctI (hSn : q_Snd l E D cid s0 n) (hM : q_mok M) (hnil : q_hnd M = []) (hlen : (q_exp vs).length ≤ M.2.2.1) {v : Option Value} (hr : q_run E n M 0 (q_ent M vs) [] h = some (.inl v, h')) :
    Met l M.1 (q_ws M) (q_rm M (h'.2.2.1 - h.2.2.1) (h'.2.2.2 - h.2.2.2)) (q_Pc D cid s0 vs h) (q_Qc D cid s0 (.inl v) h') (h'.2.2.1 - h.2.2.1) (h'.2.2.2 - h.2.2.2) (q_A s0) := by
  refine Met.ofW (cc := M.2.1) (maxL := M.2.2.1) (ret := q_ret M) hM.2.1 (by unfold q_ws; rw [q_cw_nil hnil]) ?_
  intro p e s m args below meth c s₁ B hml hv
  obtain ⟨rfl, hY, hH⟩ := hv
  have hbt : c.exceptionTable.toList = tableOf (q_hnd M) := by
    have hts := atoms_spec (ws := q_ws M) B.pre
    have hw := hts _ List.mem_cons_self
    rw [q_cw_nil hnil] at hw
    obtain ⟨meth9, c9, h1, h2, -, -, -, -, h7, -⟩ := Cond.code_spec B.named hw
    cases Option.some.inj (h1.symm.trans B.method)
    cases Option.some.inj (h2.symm.trans (Stand.of_body B).code)
    rw [hnil, Array.isEmpty_iff.mp h7]
    rfl
  have hF := q_frame hM B hml hbt
  refine q_enter hSn hr hlen hF hY (Nat.le_refl _) (Nat.le_refl _) hH ?_
  obtain ⟨hx, hb, hr2, hml2, hown, hts, hlk, hnm, htab, hfr, hlo⟩ := hF
  refine ⟨fun v1 hv H1 locs1 L1 pc1 i hH hS hd hi => ?_, fun x hxr => (nomatch hxr), fun x hxr => (nomatch hxr)⟩
  cases hv
  match v, hi with
  | none, hi =>
    obtain ⟨rfl, hret⟩ := hi
    exact W.vret hx hb (hr2.trans hret) (fun t ht hW => ⟨⟨none, rfl, rfl⟩, hS.F ht, by rw [ht]; exact hH⟩) hS.2.2 hd hlk
  | some (.int z), hi =>
    obtain ⟨rfl, ty, hret, hn⟩ := hi
    exact W.zret hx hb (hr2.trans hret) hn (fun t ht hW => ⟨⟨_, rfl, rfl⟩, hS.F ht, by rw [ht]; exact hH⟩) hS.2.2 hd hlk
  | some (.long z), hi =>
    obtain ⟨rfl, hret⟩ := hi
    exact W.lret hx hb (hr2.trans hret) (fun t ht hW => ⟨⟨_, rfl, rfl⟩, hS.F ht, by rw [ht]; exact hH⟩) hS.2.2 hd hlk
  | some (.float z), hi =>
    obtain ⟨rfl, hret⟩ := hi
    exact W.fret hx hb (hr2.trans hret) (fun t ht hW => ⟨⟨_, rfl, rfl⟩, hS.F ht, by rw [ht]; exact hH⟩) hS.2.2 hd hlk
  | some (.double z), hi =>
    obtain ⟨rfl, hret⟩ := hi
    exact W.dret hx hb (hr2.trans hret) (fun t ht hW => ⟨⟨_, rfl, rfl⟩, hS.F ht, by rw [ht]; exact hH⟩) hS.2.2 hd hlk
  | some (.ref z), hi =>
    obtain ⟨rfl, rt, hret, hrt⟩ := hi
    exact W.aret hx hb (hr2.trans hret) hrt (Or.inr ⟨_, rfl⟩) (fun t ht hW => ⟨⟨_, rfl, rfl⟩, hS.F ht, by rw [ht]; exact hH⟩) hS.2.2 hd hlk
end QZ
end
section
/-! the induction's step: calls, and the whole -/
theorem q_cal_9 : ∀ o, 10 ≤ o → o < 17 → ∀ x ∈ q_cal o, x.2.2.2.1.2.2.1 ≤ 40 ∧ (x.2.1 = 2 → q_ret x.2.2.2.1 = none) := by
  intro o h1 h2
  match o, h1, h2 with
  | 10, _, _ => decide +kernel
  | 11, _, _ => decide +kernel
  | 12, _, _ => decide +kernel
  | 13, _, _ => decide +kernel
  | 14, _, _ => decide +kernel
  | 15, _, _ => decide +kernel
  | 16, _, _ => decide +kernel
  | o + 17, _, h => exact absurd h (by omega)
theorem q_cal_10 : ∀ o, o < 10 → ∀ x ∈ q_cal o, x.2.2.2.1.2.2.1 ≤ 40 ∧ (x.2.1 = 2 → q_ret x.2.2.2.1 = none) := by
  intro o h1
  match o, h1 with
  | 0, _ => decide +kernel
  | 1, _ => decide +kernel
  | 2, _ => decide +kernel
  | 3, _ => decide +kernel
  | 4, _ => decide +kernel
  | 5, _ => decide +kernel
  | 6, _ => decide +kernel
  | 7, _ => decide +kernel
  | 8, _ => decide +kernel
  | 9, _ => decide +kernel
theorem q_cal_11 : ∀ o, ∀ x ∈ q_cal o, x.2.2.2.1.2.2.1 ≤ 40 ∧ (x.2.1 = 2 → q_ret x.2.2.2.1 = none) := by
  intro o x hx
  by_cases h1 : o < 10
  · exact q_cal_10 o h1 x hx
  · by_cases h2 : o < 17
    · exact q_cal_9 o (Nat.not_lt.mp h1) h2 x hx
    · exfalso
      have : q_cal o = [] := by
        match o, h2 with
        | o + 17, _ => rfl
      rw [this] at hx
      cases hx
theorem q_ml40 (o : Nat) : ∀ x ∈ q_cal o, x.2.2.2.1.2.2.1 ≤ 40 := fun x hx => (q_cal_11 o x hx).1
theorem q_iret (o : Nat) : ∀ x ∈ q_cal o, x.2.1 = 2 → q_ret x.2.2.2.1 = none := fun x hx => (q_cal_11 o x hx).2
theorem q_call_j {E : q_E} {M M' : q_M} {n j : Nat} {st vs rest : List Value} {h : q_H} (hs : q_call E M 2 n M' st h = some (.inr (.inl (M', j, vs, rest)))) : j = 2 := by
  unfold q_call at hs
  split at hs
  · dsimp only at hs
    split at hs
    · split at hs
      · cases hs; rfl
      · cases hs
    · cases hs
  · cases hs
theorem q_cnm_nm : ∀ o, o < 9 → q_cnm o = q_nm o
  | 0, _ => rfl
  | 1, _ => rfl
  | 2, _ => rfl
  | 3, _ => rfl
  | 4, _ => rfl
  | 5, _ => rfl
  | 6, _ => rfl
  | 7, _ => rfl
  | 8, _ => rfl
theorem q_rc_nm : ∀ o, o < 17 → q_rc o < 10 → ¬ o = 9 → q_cnm (q_rc o) = q_nm o := by decide +kernel
theorem q_isc {x : MethodName} {w : Cond} (h : (match w with | .code y _ _ _ => y == x | _ => false) = true) : ∃ b0 m0 r0, w = .code x b0 m0 r0 := by
  split at h
  · rename_i y b0 m0 r0
    have e : y = x := eq_of_beq h
    subst e
    exact ⟨_, _, _, rfl⟩
  · cases h
theorem q_cav_im : ∀ o, o < 17 → ∀ x ∈ q_cav o, Cond.instanceMethod x.2.2.2.1 ∈ lw_tbl := by decide +kernel
theorem q_own17 : ∀ o, o < 17 → ∀ x ∈ q_cal o, q_own x.2.2.2.1 < 17 := by decide +kernel
theorem q_cal17 : ∀ o, 17 ≤ o → q_cal o = [] := by
  intro o h
  match o, h with
  | o + 17, _ => rfl
theorem q_own9 : ∀ o, o < 17 → ∀ x ∈ q_cal o, x.2.1 = 1 → ¬ q_own x.2.2.2.1 = 9 := by decide +kernel
section QR
variable {p : Program} {l : Launch} {e : Env} {R : Room} {s s0 : State} {m : MethodId} {args : Array Value} {below : List Frame} {meth : Method} {c : Code} {H : Heap} {locs : List Loc} {Q : State → Prop} {cells slots mc ms : Nat} {rest : List Value}
variable {E : q_E} {D : va_G} {cid : Nat → ClassId} {M M' : q_M} {pc : Nat} {ls st vs : List Value} {h h' h1 : q_H} {L : Array Slot} {f : q_F} {c0 n0 n : Nat} {r r1 : q_R}
theorem q_ws_go (hM : q_mok M') (hts : ∀ w ∈ lw_tbl, goodWord w = true → w.before args s = true) : ∀ w ∈ q_ws M', ∀ (a' : Array Value) (U : State), s.WarmedH U.vm → w.before a' U = true := fun w hw a' U hW => by
  obtain ⟨h1, h2⟩ := q_ws_in hM w hw
  exact word_at hW (good_of_word h2) (hts w h1 h2)
theorem q_callW (hSn : q_Snd l E D cid s0 n) (hG : q_G E D cid s0) (hlt : l.stackTraces = false) (hF : q_Fx p s m args meth c R M) (hY : q_Y s0 s) (hH : q_hp D cid s0.heap.size h H) (hS : va_S (q_A s0) s.heap H locs) (hLs : L.size = c.maxLocals)
    {i : Instr} {len j : Nat} (hd : decode M.2.1 pc = .ok (i, len)) (hs : q_stepI E M i len pc ls st h = some (.inr (.inl (M', j, vs, rest)))) (hr : q_run E n M' 0 (q_ent M' vs) [] h = some (r1, h1))
    (hj : j = 2 → ∃ v, r1 = .inl v) (hRc : cells + (h1.2.2.1 - h.2.2.1) ≤ R.cells) (hRs : slots + (h1.2.2.2 - h.2.2.2) ≤ R.slots)
    (kr : ∀ v, r1 = .inl v → ∀ (H1 : Heap) (locs1 : List Loc), q_hp D cid s0.heap.size h1 H1 → va_S (q_A s0) s.heap H1 locs1 → W p l e R s m args below meth c H1 locs1 (cells + (h1.2.2.1 - h.2.2.1)) (slots + (h1.2.2.2 - h.2.2.2)) Q (F0 m (pc + 3) L (v.toList ++ rest)))
    (kx : ∀ x, r1 = .inr x → ∀ (H1 : Heap) (locs1 : List Loc) (q : Addr) (ce : Cell), q_hp D cid s0.heap.size h1 H1 → va_S (q_A s0) s.heap H1 locs1 → H1[q]? = some ce → ce.vm = .none → s.vm.findClass x = some ce.cls → vx_W p l e R s m args below meth c H1 locs1 (cells + (h1.2.2.1 - h.2.2.1)) (slots + (h1.2.2.2 - h.2.2.2)) Q (F0 m pc L rest) q) :
    W p l e R s m args below meth c H locs cells slots Q (F0 m pc L st) := by
  rcases q_call_step hs with ⟨ix, k, n1, ps, hlen, hk, hq, hc⟩ | ⟨ix, k, n1, x, ps, hlen, hk, ho17, hq, hc⟩
  rotate_left
  · obtain ⟨hgt, b, ws, rest1, fs, hx1, hle, hcat, e1, e2, hbc⟩ := q_callU_inv hc
    cases hx1
    have hmem := q_lk_mem hq
    have hM : q_mok M' := q_mov _ _ hmem
    obtain ⟨w1, w2, w3, w4, w5⟩ := q_cav_ok _ ho17 _ hmem
    obtain ⟨v1, v2, v3, v4⟩ := q_cav_o2 _ ho17 _ hmem
    obtain ⟨u1, u2, u3⟩ := q_cav_o3 _ ho17 _ hmem
    obtain ⟨t1, t2⟩ := q_cav_o4 _ ho17 _ hmem
    dsimp only at w1 w2 w3 w4 w5 v1 v2 v3 v4 u1 u2 u3 t1 t2
    have hnil : q_hnd M' = [] := List.isEmpty_iff.mp t1
    obtain ⟨hx, hb, hr9, hml, hown, hts, hlk, hnm, htab, hfr, hlo⟩ := id hF
    have hws := q_ws_go hM hts
    have hcw : (q_cw M').before args s = true := q_word hts hM.1 (q_cw_good M')
    have hcin : q_cw M' ∈ q_ws M' := List.mem_cons_self
    rw [q_cw_nil hnil] at hcw hcin
    have hpar : ∀ sig, parseMethodDescriptor x.desc = some sig → n1 = sig.parameters.length := fun sig h2 => by
      have h3 := w1
      rw [h2] at h3
      exact (Option.some.inj h3).symm
    have hcat8 : 2 * 0 + (rest.map fun v => v.category).sum ≤ 8 := by
      have : (rest.map fun v => v.category).sum ≤ 8 := hcat
      omega
    have hpc : ∀ U : State, U.heap = H → s.WarmedH U.vm → q_Pc D cid s0 (.ref b :: ws) h (Value.ref b :: ws).toArray U := fun U hU hW => ⟨rfl, ⟨State.WarmedH.trans hY.1 hW, by rw [hU]; exact Nat.le_trans hY.2.1 hS.1, fun q hq2 => by
      rw [hU, hS.2.1 q (Nat.lt_of_lt_of_le hq2 hY.2.1) (Nat.not_le.mpr hq2)]
      exact hY.2.2 q hq2⟩, by rw [hU]; exact hH⟩
    have hrec : ∃ cell : Cell, H[b]? = some cell ∧ cell.vm.isStatics = false ∧ s.vm.findClass RJ4 = some cell.cls := by
      obtain ⟨-, hat⟩ := hH.2 b _ hbc
      have hrec := va_recv (q_K hG hY) (q_P1 hat) (q_cls_ok 8 (by decide)) (q0 := 0) rfl
      exact hrec
    have hcode : ∃ b0 m0 r0, (Cond.code x b0 m0 r0).before args s = true := by
      cases e9 : lw_tbl[ps.2.2.2.2.2]? with
      | none => rw [e9] at v1; cases v1
      | some w =>
        rw [e9] at v1
        obtain ⟨b0, m0, r0, rfl⟩ := q_isc v1
        exact ⟨b0, m0, r0, q_word hts e9 rfl⟩
    obtain ⟨b0, m0, r0, hcode⟩ := hcode
    obtain ⟨v, rfl⟩ := hj rfl
    subst hlen
    have hback : (q_rm M' (h1.2.2.1 - h.2.2.1) (h1.2.2.2 - h.2.2.2)).cells = (h1.2.2.1 - h.2.2.1) := rfl
    rcases hk with ⟨rfl, rfl⟩ | ⟨rfl, rfl⟩
    · have hCU : va_CU R s args (q_nm (q_own M)) RJ4 x.cls ix x M'.1 M'.2.1 M'.2.2.1 (q_ret M') (q_ws M') (q_rm M' (h1.2.2.1 - h.2.2.1) (h1.2.2.2 - h.2.2.2)) (h1.2.2.1 - h.2.2.1) (h1.2.2.2 - h.2.2.2) n1 :=
        ⟨⟨rfl, rfl, by show q_hgt M' + 1 ≤ R.frames; omega, by show 8 + (M'.2.2.1 + 11) + 64 * (q_hgt M' + 2) ≤ R.locals; omega, hws, hcin⟩, hcw, q_word hts w4 rfl, ⟨u2, u3⟩, hpar, q_word hts w2 rfl, q_word hts w5 rfl, va_Decl.of (hts _ (q_cav_im _ ho17 _ hmem) rfl) hcode, q_word hts (v3 rfl) rfl, q_word hts w3 rfl⟩
      exact q_backI (vs := .ref b :: ws) (va_runU (Ts := []) (own := q_nm (q_own M)) (nL := c.maxLocals) (n := n1) ⟨hx, hb, rfl, hown, fun w hw => by cases hw⟩ (q_ctI hSn hM hnil hle hr) hCU ⟨q_Pc_blind, hrec, hpc⟩ rfl e1 hLs e2 hcat8 hd ⟨hRc, hRs⟩) hS kr
    · obtain ⟨v5, v6⟩ := v4 rfl
      subst v5
      have hCS : va_CS R s args (q_nm (q_own M)) ix M'.1 M'.2.1 M'.2.2.1 (q_ret M') (q_ws M') (q_rm M' (h1.2.2.1 - h.2.2.1) (h1.2.2.2 - h.2.2.2)) (h1.2.2.1 - h.2.2.1) (h1.2.2.2 - h.2.2.2) n1 :=
        ⟨⟨rfl, rfl, by show q_hgt M' + 1 ≤ R.frames; omega, by show 8 + (M'.2.2.1 + 11) + 64 * (q_hgt M' + 2) ≤ R.locals; omega, hws, hcin⟩, q_word hts w2 rfl, q_word hts w5 rfl, q_word hts v6 rfl, q_word hts w3 rfl, q_word hts w4 rfl, hcw, u1, hpar⟩
      exact q_backI (vs := .ref b :: ws) (va_runSU (C := RJ4) (Ts := []) (own := q_nm (q_own M)) (nL := c.maxLocals) (n := n1) ((q_K hG hY).1 8 _ (q_cls_ok 8 (by decide))).2 ⟨hx, hb, rfl, hown, fun w hw => by cases hw⟩ (q_ctI hSn hM hnil hle hr) hCS ⟨q_Pc_blind, hrec, hpc⟩ rfl e1 hLs e2 hcat8 hd ⟨hRc, hRs⟩) hS kr
  obtain ⟨hgt, j1, vs1, rest1, hx1, hle, hcat, hk0, hk1⟩ := q_call_inv hc
  cases hx1
  have hmem := q_lk_mem hq
  have hM : q_mok M' := q_mo _ _ hmem
  obtain ⟨w1, w2, w3, w4, w5, w6, w7⟩ := q_cal_ok _ _ hmem
  dsimp only at w1 w2 w3 w4 w5 w6 w7
  obtain ⟨hx, hb, hr9, hml, hown, hts, hlk, hnm, htab, hfr, hlo⟩ := id hF
  have hws := q_ws_go hM hts
  have hcw : (q_cw M').before args s = true := q_word hts hM.1 (q_cw_good M')
  have hcin : q_cw M' ∈ q_ws M' := List.mem_cons_self
  have hin : (Cond.initialized M'.1.cls).before args s = true := q_word hts w3 rfl
  have hli : (Cond.methodLink (q_nm (q_own M)) ix M'.1).before args s = true := q_word hts w2 rfl
  have hsz : M'.2.2.1 ≤ 40 → 8 + (M'.2.2.1 + 11) + 64 * (q_hgt M' + 2) ≤ R.locals := fun _ => by omega
  have hml40 : M'.2.2.1 ≤ 40 := q_ml40 _ _ hmem
  have hpar : ∀ sig, parseMethodDescriptor M'.1.desc = some sig → n1 = sig.parameters.length := fun sig h2 => by
    have h3 := w1
    rw [h2] at h3
    exact (Option.some.inj h3).symm
  have hcat8 : 2 * 0 + (rest.map fun v => v.category).sum ≤ 8 := by
    have : (rest.map fun v => v.category).sum ≤ 8 := hcat
    omega
  have hpc : ∀ U : State, U.heap = H → s.WarmedH U.vm → q_Pc D cid s0 vs h vs.toArray U := fun U hU hW => ⟨rfl, ⟨State.WarmedH.trans hY.1 hW, by rw [hU]; exact Nat.le_trans hY.2.1 hS.1, fun q hq2 => by
    rw [hU, hS.2.1 q (Nat.lt_of_lt_of_le hq2 hY.2.1) (Nat.not_le.mpr hq2)]
    exact hY.2.2 q hq2⟩, by rw [hU]; exact hH⟩
  have hfr1 : q_hgt M' + 1 ≤ R.frames := by omega
  subst hlen
  rcases hk with ⟨rfl, rfl⟩ | ⟨rfl, rfl⟩ | ⟨rfl, rfl⟩
  · obtain ⟨e1, e2⟩ := hk0 rfl
    cases hnil : q_hnd M' with
    | nil =>
      rw [q_cw_nil hnil] at hcw hcin
      refine q_back (vs := vs) (vx_runS (Ts := []) (own := q_nm (q_own M)) (nL := c.maxLocals) (n := n1) ⟨hx, hb, rfl, hown, fun w hw => by cases hw⟩ (q_ctX hSn hG hlt hM hnil hle hr) ⟨⟨rfl, rfl, hfr1, hsz hml40, hws, hcin, hcw, hin, hM.2.2.2, hpar, hli⟩, q_word hts w4 rfl⟩ ⟨q_Pc_blind, hpc⟩ rfl e1 hLs e2 hcat8 hd ⟨hRc, hRs⟩) hS kr kx
    | cons a b =>
      rw [q_cw_cons hnil] at hcw hcin
      refine q_back (vs := vs) (vx_runSX (Ts := []) (own := q_nm (q_own M)) (nL := c.maxLocals) (n := n1) (hh := q_hnd M') ⟨hx, hb, rfl, hown, fun w hw => by cases hw⟩ (q_ctW hSn hG hlt hM hnil hle hr) ⟨⟨rfl, rfl, hfr1, hsz hml40, hws, hcin⟩, hcw, hin, hM.2.2.2, hpar, hli, q_word hts w4 rfl⟩ ⟨q_Pc_blind, hpc⟩ rfl e1 hLs e2 hcat8 hd ⟨hRc, hRs⟩) hS kr kx
  · obtain ⟨b, ws, rfl, e1, e2, e3⟩ := hk1 (by decide)
    have hnil := w7 (by decide)
    rw [q_cw_nil hnil] at hcw hcin
    have hrec : ∃ cell : Cell, H[b]? = some cell ∧ cell.vm.isStatics = false ∧ s.vm.findClass M'.1.cls = some cell.cls := by
      rcases e3 rfl with ⟨fs, h9, hbc⟩ | ⟨h9, hbc⟩
      · obtain ⟨-, hat⟩ := hH.2 b _ hbc
        have hrec := va_recv (q_K hG hY) (q_P1 hat) (q_cls_ok _ h9) (q0 := 0) rfl
        have h17 : q_own M < 17 := Classical.byContradiction fun hn => by
          rw [q_cal17 _ (Nat.not_lt.mp hn)] at hmem
          cases hmem
        have hcn : q_cnm (q_rc (q_own M')) = M'.1.cls := (q_rc_nm _ (q_own17 _ h17 _ hmem) h9 (q_own9 _ h17 _ hmem rfl)).trans hM.2.2.1.symm
        dsimp only at hrec
        rw [hcn] at hrec
        exact hrec
      · obtain ⟨i, hi⟩ := Option.isSome_iff_exists.mp hbc
        obtain ⟨hi8, hia⟩ := q_sx_some hi
        obtain ⟨adK, adV, g1, g3⟩ := q_Sat hG hY
        rw [(g1 i hi8).1] at hia
        cases hia
        have hcn : M'.1.cls = "java/lang/String" := by
          rw [hM.2.2.1]
          show q_nm (q_own M') = _
          rw [h9]
          rfl
        rw [hcn]
        exact vk_recv g3 hi8 hS
    refine q_back (vs := .ref b :: ws) (vx_runV (Ts := []) (own := q_nm (q_own M)) (nL := c.maxLocals) (n := n1) ⟨hx, hb, rfl, hown, fun w hw => by cases hw⟩ (q_ctX hSn hG hlt hM hnil hle hr) ⟨⟨rfl, rfl, hfr1, hsz hml40, hws, hcin, hcw, hin, hM.2.2.2, hpar, hli⟩, q_word hts w4 rfl, q_word hts (w5 rfl) rfl⟩ ⟨q_Pc_blind, hrec, hpc⟩ rfl e1 hLs e2 hcat8 hd ⟨hRc, hRs⟩) hS kr kx
  · obtain ⟨b, ws, rfl, e1, e2, e3⟩ := hk1 (by decide)
    have hnil := w7 (by decide)
    rw [q_cw_nil hnil] at hcw hcin
    have hj2 : j = 2 := q_call_j hc
    obtain ⟨v, rfl⟩ := hj hj2
    have hret : q_ret M' = none := q_iret _ _ hmem rfl
    rw [hret] at hcw hcin
    refine q_backI (vs := .ref b :: ws) (va_runI (Ts := []) (own := q_nm (q_own M)) (nL := c.maxLocals) (n := n1) ⟨hx, hb, rfl, hown, fun w hw => by cases hw⟩ (q_ctI hSn hM hnil hle hr) ⟨⟨rfl, rfl, hfr1, hsz hml40, hws, hcin, hcw, hin, hM.2.2.2, hpar, hli⟩, w6 rfl, q_word hts w4 rfl⟩ ⟨q_Pc_blind, hpc⟩ rfl e1 hLs e2 hcat8 hd ⟨hRc, hRs⟩) hS kr
end QR
end
section
/-! what the abstract machine runs, the machine runs -/
section QX
variable {p : Program} {l : Launch} {e : Env} {R : Room} {s s0 : State} {m : MethodId} {args : Array Value} {below : List Frame} {meth : Method} {c : Code} {H : Heap} {locs : List Loc} {Q : State → Prop} {cells slots mc ms : Nat} {rest : List Value}
variable {E : q_E} {D : va_G} {cid : Nat → ClassId} {M M' : q_M} {pc : Nat} {ls st vs : List Value} {h h' h1 : q_H} {L : Array Slot} {f : q_F} {c0 n0 n : Nat} {r r1 : q_R}
theorem q_set_null {k : List Value} {i : Nat} {w : Value} (hj : (k.set i .null)[i]? = some w) : w = .null := by
  rw [List.getElem?_set, if_pos rfl] at hj
  split at hj
  · cases hj; rfl
  · cases hj
theorem q_st1_null {i : Nat} {v : Value} (hL : q_L L M.2.2.1 (q_st1 ls i v)) : q_L L M.2.2.1 (q_st1 ls i .null) := by
  refine ⟨by rw [q_st1_len]; exact (q_st1_len ls i v).symm.trans hL.1, hL.2.1, hL.2.2.1, fun j w hj hw => ?_⟩
  by_cases hji : j = i
  · exfalso
    subst hji
    cases j with
    | zero =>
      simp only [q_st1] at hj
      exact hw (q_set_null hj)
    | succ k =>
      simp only [q_st1] at hj
      exact hw (q_set_null hj)
  · refine hL.2.2.2 j w ?_ hw
    rw [← hj]
    cases i with
    | zero => simp only [q_st1]; rw [List.getElem?_set_ne (Ne.symm hji), List.getElem?_set_ne (Ne.symm hji)]
    | succ k => simp only [q_st1]; rw [List.getElem?_set_ne (Ne.symm hji), List.getElem?_set_ne (Ne.symm hji)]
/-- caught: the handler puts what was thrown away and goes on -/
theorem q_caught (hF : q_Fx p s m args meth c R M) (hG : q_G E D cid s0) (hY : q_Y s0 s) {x : String} {hp pc1 : Nat} {ls1 : List Value} (hh : q_hd M x pc (q_hnd M) = some (some hp)) (ht : q_hst M hp ls = some (pc1, ls1)) (hL : q_L L M.2.2.1 ls) {q : Addr} {ce : Cell} (hce : H[q]? = some ce) (hcv : ce.vm = .none) (hcl : s.vm.findClass x = some ce.cls)
    (kk : ∀ L1 : Array Slot, q_L L1 M.2.2.1 ls1 → W p l e R s m args below meth c H locs cells slots Q (F0 m pc1 L1 [])) : vx_W p l e R s m args below meth c H locs cells slots Q (F0 m pc L rest) q := by
  obtain ⟨hx, hb, hr, hml, hown, hts, hlk, hnm, htab, hfr, hlo⟩ := hF
  have hh2 : q_own M = 9 ∧ q_hd1 9 x pc (q_hnd M) = some hp := by
    cases hnil : q_hnd M with
    | nil => rw [hnil] at hh; cases hh
    | cons a b =>
      rw [hnil] at hh
      unfold q_hd at hh
      split at hh
      · cases hh
      · split at hh
        · rename_i h9
          split at hh
          · rename_i hp2 e2
            cases hh
            exact ⟨h9, e2⟩
          · cases hh
        · cases hh
  obtain ⟨h9, hh2⟩ := hh2
  obtain ⟨pre, a, b, ci, suf, ps, e1, e2, e3, e4, e5, e6⟩ := q_hd1_inv hh2
  rw [h9] at hown
  have htab := htab (by rw [e1]; simp)
  rw [e1] at htab
  have hlink : ∀ {ci nm ps}, q_lk (q_hc 9) ci = some (nm, ps) → (Cond.classLink (q_nm 9) ci nm).before args s = true := fun {ci nm ps} h => q_word hts (q_hc_ok _ (q_lk_mem h)) rfl
  have hcast : (Cond.castable x x).before args s = true := by
    unfold q_lk' at e4
    obtain ⟨z, hz, hz2⟩ := List.any_eq_true.mp e4
    have hz3 : z.1 = x := by simpa using hz2
    have := q_cst_ok z hz
    rw [hz3] at this
    exact q_carry hG hY hts (List.mem_of_getElem? this) rfl
  have htab2 : c.exceptionTable.toList = tableOf pre ++ ⟨a, b, hp, ci⟩ :: tableOf suf := by
    rw [htab]
    unfold tableOf
    rw [List.map_append, List.map_cons]
  refine vx_catch hown (tableOf pre) ⟨a, b, hp, ci⟩ (tableOf suf) htab2 (fun z hz => ?_) ?_ e5 (hlink e3) hcast hce hcv hcl ?_
  · obtain ⟨y, hy, rfl⟩ := List.mem_map.mp hz
    rcases e6 y hy with k | ⟨k1, nm, ps2, k2, k3⟩
    · refine Or.inl ?_
      show (decide (y.1 ≤ pc) && decide (pc < y.2.1)) = false
      by_cases k4 : y.1 ≤ pc
      · rw [decide_eq_true k4, Bool.true_and]
        exact decide_eq_false fun k5 => k ⟨k4, k5⟩
      · rw [decide_eq_false k4, Bool.false_and]
    · exact Or.inr ⟨k1, nm, hlink k2, (hG.2.2.2.2.2.2.2.1 x nm k3).moved hY.1.alike⟩
  · show (decide (a ≤ pc) && decide (pc < b)) = true
    rw [decide_eq_true e2.1, decide_eq_true e2.2]
    rfl
  · show W p l e R s m args below meth c H locs cells slots Q (F0 m hp L [.ref q])
    unfold q_hst at ht
    split at ht
    · rename_i k hd
      split at ht
      · rename_i hk
        cases ht
        exact lv_astore_n hx hb hd rfl hL.has (hL.1 ▸ hk) rfl (fun L1 h1 => kk L1 (q_st1_null (q_L.st1 hL.1 h1)))
      · cases ht
    · rename_i k hd
      split at ht
      · rename_i hk
        cases ht
        exact lv_astore hx hb hd hL.has (hL.1 ▸ hk) rfl (fun L1 h1 => kk L1 (q_st1_null (q_L.st1 hL.1 h1)))
      · cases ht
    · cases ht
theorem q_sound (hG : q_G E D cid s0) (hlt : l.stackTraces = false) : ∀ n, q_Snd l E D cid s0 n
  | 0 => fun _ _ _ _ _ _ _ hr => by cases hr
  | n + 1 => by
    have ih := q_sound hG hlt n
    intro M pc ls st h r h' hr p e R s m args below meth c H locs L Q c0 n0 hF hY hc0 hn0 hRc hRs hH hS hL hE
    have hr : (q_step E M pc ls st h).bind (q_k (q_run E n) M pc ls h) = some (r, h') := hr
    cases ex : q_step E M pc ls st h with
    | none => rw [ex] at hr; cases hr
    | some x =>
      rw [ex] at hr
      have hr : q_k (q_run E n) M pc ls h x = some (r, h') := hr
      unfold q_step at ex
      split at ex
      · rename_i i len hd
        match x, hr, ex with
        | .inl f, hr, ex =>
          have hr : q_run E n M f.1 f.2.1 f.2.2.1 f.2.2.2 = some (r, h') := hr
          have g1 := q_grow ex
          have g2 := q_run_grow E n _ _ _ _ _ _ _ hr
          refine q_next hF hG hY hd ex ⟨hc0, hn0, by omega, by omega⟩ hH hS hL (fun H1 locs1 L1 hH1 hS1 hL1 => ?_)
          exact ih M f.1 f.2.1 f.2.2.1 f.2.2.2 r h' hr p e R s m args below meth c H1 locs1 L1 Q c0 n0 hF hY (Nat.le_trans hc0 g1.1) (Nat.le_trans hn0 g1.2) hRc hRs hH1 hS1 hL1 hE
        | .inr (.inr q), hr, ex =>
          have hq : q = (r, h') := Option.some.inj hr
          subst hq
          rcases q_end_inv ex with ⟨v, rfl, rfl, rfl, hi, rfl⟩ | ⟨z, ix, ic, ps, rfl, rfl, rfl, rfl, k1, k2, k3, k4, k5, k6⟩
          · exact hE.1 v rfl H locs L pc i hH hS hd hi
          · exact hE.2.1 z rfl H locs L pc st h ix ic ps rfl hc0 hn0 hH hS (hL.2.1.trans hF.2.2.2.1.symm) k1 k2 hd k3 k4 k5 k6
        | .inr (.inl (M', j, vs, rest)), hr, ex =>
          have hr : q_bk (q_run E n) M pc ls j rest (q_run E n M' 0 (q_ent M' vs) [] h) = some (r, h') := hr
          cases er : q_run E n M' 0 (q_ent M' vs) [] h with
          | none => rw [er] at hr; cases hr
          | some y =>
            obtain ⟨r1, h1⟩ := y
            rw [er] at hr
            have g1 := q_run_grow E n _ _ _ _ _ _ _ er
            have g2 : h1.2.2.1 ≤ h'.2.2.1 ∧ h1.2.2.2 ≤ h'.2.2.2 := by
              unfold q_bk at hr
              match r1, hr with
              | .inl v, hr => exact q_run_grow E n _ _ _ _ _ _ _ hr
              | .inr z, hr =>
                dsimp only at hr
                split at hr
                · cases hr
                split at hr
                · cases hr
                · cases hr; exact ⟨Nat.le_refl _, Nat.le_refl _⟩
                · split at hr
                  · cases hr
                  · exact q_run_grow E n _ _ _ _ _ _ _ hr
            have ec : h.2.2.1 - c0 + (h1.2.2.1 - h.2.2.1) = h1.2.2.1 - c0 := by omega
            have es : h.2.2.2 - n0 + (h1.2.2.2 - h.2.2.2) = h1.2.2.2 - n0 := by omega
            refine q_callW ih hG hlt hF hY hH hS (hL.2.1.trans hF.2.2.2.1.symm) hd ex er (fun hj => ?_) (by omega) (by omega) (fun v hv H1 locs1 hH1 hS1 => ?_) (fun z hz H1 locs1 q ce hH1 hS1 hce hcv hcl => ?_)
            · match r1, hr with
              | .inl v, _ => exact ⟨v, rfl⟩
              | .inr z, hr =>
                unfold q_bk at hr
                dsimp only at hr
                rw [if_pos hj] at hr
                cases hr
            · subst hv
              rw [ec, es]
              exact ih M (pc + 3) ls (v.toList ++ rest) h1 r h' hr p e R s m args below meth c H1 locs1 L Q c0 n0 hF hY (Nat.le_trans hc0 g1.1) (Nat.le_trans hn0 g1.2) hRc hRs hH1 hS1 hL hE
            · subst hz
              rw [ec, es]
              unfold q_bk at hr
              dsimp only at hr
              split at hr
              · cases hr
              split at hr
              · cases hr
              · rename_i hnn
                cases hr
                have hnil : q_hnd M = [] := by
                  cases hnil : q_hnd M with
                  | nil => rfl
                  | cons a b =>
                    rw [hnil] at hnn
                    unfold q_hd at hnn
                    split at hnn
                    · rename_i e9; cases e9
                    · split at hnn
                      · split at hnn <;> cases hnn
                      · cases hnn
                exact hE.2.2 z rfl H1 locs1 L pc rest q ce hH1 hS1 hce hcv hcl hnil
              · rename_i hp hhd
                split at hr
                · cases hr
                · rename_i pc1 ls1 hst
                  exact q_caught hF hG hY hhd hst hL hce hcv hcl (fun L1 hL1 => ih M pc1 ls1 [] h1 r h' hr p e R s m args below meth c H1 locs1 L1 Q c0 n0 hF hY (Nat.le_trans hc0 g1.1) (Nat.le_trans hn0 g1.2) hRc hRs hH1 hS1 hL1 hE)
      · cases ex
end QX
end
