/-! decode rows (printed by program) -/
theorem d_X0_init_0 : decode cX0_init 0 = .ok (.aload_n 0, 1) := by decide +kernel
theorem d_X0_init_1 : decode cX0_init 1 = .ok (.invokespecial 3, 3) := by decide +kernel
theorem d_X0_init_4 : decode cX0_init 4 = .ok (.aload_n 0, 1) := by decide +kernel
theorem d_X0_init_5 : decode cX0_init 5 = .ok (.aload_n 1, 1) := by decide +kernel
theorem d_X0_init_6 : decode cX0_init 6 = .ok (.putfield 9, 3) := by decide +kernel
theorem d_X0_init_9 : decode cX0_init 9 = .ok (.aload_n 0, 1) := by decide +kernel
theorem d_X0_init_10 : decode cX0_init 10 = .ok (.bipush 48, 2) := by decide +kernel
theorem d_X0_init_12 : decode cX0_init 12 = .ok (.newarray .int, 2) := by decide +kernel
theorem d_X0_init_14 : decode cX0_init 14 = .ok (.putfield 15, 3) := by decide +kernel
theorem d_X0_init_17 : decode cX0_init 17 = .ok (.aload_n 0, 1) := by decide +kernel
theorem d_X0_init_18 : decode cX0_init 18 = .ok (.bipush 48, 2) := by decide +kernel
theorem d_X0_init_20 : decode cX0_init 20 = .ok (.newarray .int, 2) := by decide +kernel
theorem d_X0_init_22 : decode cX0_init 22 = .ok (.putfield 19, 3) := by decide +kernel
theorem d_X0_init_25 : decode cX0_init 25 = .ok (.aload_n 0, 1) := by decide +kernel
theorem d_X0_init_26 : decode cX0_init 26 = .ok (.bipush 48, 2) := by decide +kernel
theorem d_X0_init_28 : decode cX0_init 28 = .ok (.bipush 48, 2) := by decide +kernel
theorem d_X0_init_30 : decode cX0_init 30 = .ok (.multianewarray 22 2, 4) := by decide +kernel
theorem d_X0_init_34 : decode cX0_init 34 = .ok (.putfield 24, 3) := by decide +kernel
theorem d_X0_init_37 : decode cX0_init 37 = .ok (.aload_n 0, 1) := by decide +kernel
theorem d_X0_init_38 : decode cX0_init 38 = .ok (.bipush 48, 2) := by decide +kernel
theorem d_X0_init_40 : decode cX0_init 40 = .ok (.newarray .long, 2) := by decide +kernel
theorem d_X0_init_42 : decode cX0_init 42 = .ok (.putfield 27, 3) := by decide +kernel
theorem d_X0_init_45 : decode cX0_init 45 = .ok (.aload_n 0, 1) := by decide +kernel
theorem d_X0_init_46 : decode cX0_init 46 = .ok (.bipush 48, 2) := by decide +kernel
theorem d_X0_init_48 : decode cX0_init 48 = .ok (.newarray .long, 2) := by decide +kernel
theorem d_X0_init_50 : decode cX0_init 50 = .ok (.putfield 31, 3) := by decide +kernel
theorem d_X0_init_53 : decode cX0_init 53 = .ok (.return_, 1) := by decide +kernel
theorem d_X0_between_0 : decode cX0_between 0 = .ok (.aload_n 0, 1) := by decide +kernel
theorem d_X0_between_1 : decode cX0_between 1 = .ok (.iload_n 1, 1) := by decide +kernel
theorem d_X0_between_2 : decode cX0_between 2 = .ok (.invokevirtual 34, 3) := by decide +kernel
theorem d_X0_between_5 : decode cX0_between 5 = .ok (.aload_n 0, 1) := by decide +kernel
theorem d_X0_between_6 : decode cX0_between 6 = .ok (.iload_n 2, 1) := by decide +kernel
theorem d_X0_between_7 : decode cX0_between 7 = .ok (.invokevirtual 38, 3) := by decide +kernel
theorem d_X0_between_10 : decode cX0_between 10 = .ok (.ireturn, 1) := by decide +kernel
theorem d_X0_stepsTo_0 : decode cX0_stepsTo 0 = .ok (.aload_n 0, 1) := by decide +kernel
theorem d_X0_stepsTo_1 : decode cX0_stepsTo 1 = .ok (.getfield 9, 3) := by decide +kernel
theorem d_X0_stepsTo_4 : decode cX0_stepsTo 4 = .ok (.iload_n 1, 1) := by decide +kernel
theorem d_X0_stepsTo_5 : decode cX0_stepsTo 5 = .ok (.invokevirtual 42, 3) := by decide +kernel
theorem d_X0_stepsTo_8 : decode cX0_stepsTo 8 = .ok (.ifCond .eq 12, 3) := by decide +kernel
theorem d_X0_stepsTo_11 : decode cX0_stepsTo 11 = .ok (.aload_n 0, 1) := by decide +kernel
theorem d_X0_stepsTo_12 : decode cX0_stepsTo 12 = .ok (.getfield 19, 3) := by decide +kernel
theorem d_X0_stepsTo_15 : decode cX0_stepsTo 15 = .ok (.iload_n 1, 1) := by decide +kernel
theorem d_X0_stepsTo_16 : decode cX0_stepsTo 16 = .ok (.iaload, 1) := by decide +kernel
theorem d_X0_stepsTo_17 : decode cX0_stepsTo 17 = .ok (.goto 4, 3) := by decide +kernel
theorem d_X0_stepsTo_20 : decode cX0_stepsTo 20 = .ok (.iconst (-1), 1) := by decide +kernel
theorem d_X0_stepsTo_21 : decode cX0_stepsTo 21 = .ok (.ireturn, 1) := by decide +kernel
theorem d_X0_measureFrom_0 : decode cX0_measureFrom 0 = .ok (.aload_n 0, 1) := by decide +kernel
theorem d_X0_measureFrom_1 : decode cX0_measureFrom 1 = .ok (.getfield 19, 3) := by decide +kernel
theorem d_X0_measureFrom_4 : decode cX0_measureFrom 4 = .ok (.iconst (-1), 1) := by decide +kernel
theorem d_X0_measureFrom_5 : decode cX0_measureFrom 5 = .ok (.invokestatic 48, 3) := by decide +kernel
theorem d_X0_measureFrom_8 : decode cX0_measureFrom 8 = .ok (.aload_n 0, 1) := by decide +kernel
theorem d_X0_measureFrom_9 : decode cX0_measureFrom 9 = .ok (.getfield 9, 3) := by decide +kernel
theorem d_X0_measureFrom_12 : decode cX0_measureFrom 12 = .ok (.iload_n 1, 1) := by decide +kernel
theorem d_X0_measureFrom_13 : decode cX0_measureFrom 13 = .ok (.invokevirtual 42, 3) := by decide +kernel
theorem d_X0_measureFrom_16 : decode cX0_measureFrom 16 = .ok (.ifCond .ne 4, 3) := by decide +kernel
theorem d_X0_measureFrom_19 : decode cX0_measureFrom 19 = .ok (.return_, 1) := by decide +kernel
theorem d_X0_measureFrom_20 : decode cX0_measureFrom 20 = .ok (.aload_n 0, 1) := by decide +kernel
theorem d_X0_measureFrom_21 : decode cX0_measureFrom 21 = .ok (.getfield 19, 3) := by decide +kernel
theorem d_X0_measureFrom_24 : decode cX0_measureFrom 24 = .ok (.iload_n 1, 1) := by decide +kernel
theorem d_X0_measureFrom_25 : decode cX0_measureFrom 25 = .ok (.iconst 0, 1) := by decide +kernel
theorem d_X0_measureFrom_26 : decode cX0_measureFrom 26 = .ok (.iastore, 1) := by decide +kernel
theorem d_X0_measureFrom_27 : decode cX0_measureFrom 27 = .ok (.aload_n 0, 1) := by decide +kernel
theorem d_X0_measureFrom_28 : decode cX0_measureFrom 28 = .ok (.getfield 15, 3) := by decide +kernel
theorem d_X0_measureFrom_31 : decode cX0_measureFrom 31 = .ok (.iconst 0, 1) := by decide +kernel
theorem d_X0_measureFrom_32 : decode cX0_measureFrom 32 = .ok (.iload_n 1, 1) := by decide +kernel
theorem d_X0_measureFrom_33 : decode cX0_measureFrom 33 = .ok (.iastore, 1) := by decide +kernel
theorem d_X0_measureFrom_34 : decode cX0_measureFrom 34 = .ok (.iconst 1, 1) := by decide +kernel
theorem d_X0_measureFrom_35 : decode cX0_measureFrom 35 = .ok (.istore_n 2, 1) := by decide +kernel
theorem d_X0_measureFrom_36 : decode cX0_measureFrom 36 = .ok (.iconst 0, 1) := by decide +kernel
theorem d_X0_measureFrom_37 : decode cX0_measureFrom 37 = .ok (.istore_n 3, 1) := by decide +kernel
theorem d_X0_measureFrom_38 : decode cX0_measureFrom 38 = .ok (.iload_n 3, 1) := by decide +kernel
theorem d_X0_measureFrom_39 : decode cX0_measureFrom 39 = .ok (.iload_n 2, 1) := by decide +kernel
theorem d_X0_measureFrom_40 : decode cX0_measureFrom 40 = .ok (.if_icmp .ge 107, 3) := by decide +kernel
theorem d_X0_measureFrom_43 : decode cX0_measureFrom 43 = .ok (.iload_n 3, 1) := by decide +kernel
theorem d_X0_measureFrom_44 : decode cX0_measureFrom 44 = .ok (.bipush 48, 2) := by decide +kernel
theorem d_X0_measureFrom_46 : decode cX0_measureFrom 46 = .ok (.if_icmp .ge 101, 3) := by decide +kernel
theorem d_X0_measureFrom_49 : decode cX0_measureFrom 49 = .ok (.aload_n 0, 1) := by decide +kernel
theorem d_X0_measureFrom_50 : decode cX0_measureFrom 50 = .ok (.getfield 15, 3) := by decide +kernel
theorem d_X0_measureFrom_53 : decode cX0_measureFrom 53 = .ok (.iload_n 3, 1) := by decide +kernel
theorem d_X0_measureFrom_54 : decode cX0_measureFrom 54 = .ok (.iaload, 1) := by decide +kernel
theorem d_X0_measureFrom_55 : decode cX0_measureFrom 55 = .ok (.istore 4, 2) := by decide +kernel
theorem d_X0_measureFrom_57 : decode cX0_measureFrom 57 = .ok (.iconst 0, 1) := by decide +kernel
theorem d_X0_measureFrom_58 : decode cX0_measureFrom 58 = .ok (.istore 5, 2) := by decide +kernel
theorem d_X0_measureFrom_60 : decode cX0_measureFrom 60 = .ok (.iload 5, 2) := by decide +kernel
theorem d_X0_measureFrom_62 : decode cX0_measureFrom 62 = .ok (.iconst 4, 1) := by decide +kernel
theorem d_X0_measureFrom_63 : decode cX0_measureFrom 63 = .ok (.if_icmp .ge 78, 3) := by decide +kernel
theorem d_X0_measureFrom_66 : decode cX0_measureFrom 66 = .ok (.aload_n 0, 1) := by decide +kernel
theorem d_X0_measureFrom_67 : decode cX0_measureFrom 67 = .ok (.getfield 9, 3) := by decide +kernel
theorem d_X0_measureFrom_70 : decode cX0_measureFrom 70 = .ok (.iload 4, 2) := by decide +kernel
theorem d_X0_measureFrom_72 : decode cX0_measureFrom 72 = .ok (.iload 5, 2) := by decide +kernel
theorem d_X0_measureFrom_74 : decode cX0_measureFrom 74 = .ok (.invokevirtual 54, 3) := by decide +kernel
theorem d_X0_measureFrom_77 : decode cX0_measureFrom 77 = .ok (.istore 6, 2) := by decide +kernel
theorem d_X0_measureFrom_79 : decode cX0_measureFrom 79 = .ok (.aload_n 0, 1) := by decide +kernel
theorem d_X0_measureFrom_80 : decode cX0_measureFrom 80 = .ok (.getfield 9, 3) := by decide +kernel
theorem d_X0_measureFrom_83 : decode cX0_measureFrom 83 = .ok (.iload 6, 2) := by decide +kernel
theorem d_X0_measureFrom_85 : decode cX0_measureFrom 85 = .ok (.invokevirtual 58, 3) := by decide +kernel
theorem d_X0_measureFrom_88 : decode cX0_measureFrom 88 = .ok (.ifCond .eq 47, 3) := by decide +kernel
theorem d_X0_measureFrom_91 : decode cX0_measureFrom 91 = .ok (.aload_n 0, 1) := by decide +kernel
theorem d_X0_measureFrom_92 : decode cX0_measureFrom 92 = .ok (.getfield 19, 3) := by decide +kernel
theorem d_X0_measureFrom_95 : decode cX0_measureFrom 95 = .ok (.iload 6, 2) := by decide +kernel
theorem d_X0_measureFrom_97 : decode cX0_measureFrom 97 = .ok (.iaload, 1) := by decide +kernel
theorem d_X0_measureFrom_98 : decode cX0_measureFrom 98 = .ok (.iconst (-1), 1) := by decide +kernel
theorem d_X0_measureFrom_99 : decode cX0_measureFrom 99 = .ok (.if_icmp .ne 36, 3) := by decide +kernel
theorem d_X0_measureFrom_102 : decode cX0_measureFrom 102 = .ok (.iload_n 2, 1) := by decide +kernel
theorem d_X0_measureFrom_103 : decode cX0_measureFrom 103 = .ok (.bipush 48, 2) := by decide +kernel
theorem d_X0_measureFrom_105 : decode cX0_measureFrom 105 = .ok (.if_icmp .ge 30, 3) := by decide +kernel
theorem d_X0_measureFrom_108 : decode cX0_measureFrom 108 = .ok (.aload_n 0, 1) := by decide +kernel
theorem d_X0_measureFrom_109 : decode cX0_measureFrom 109 = .ok (.getfield 19, 3) := by decide +kernel
theorem d_X0_measureFrom_112 : decode cX0_measureFrom 112 = .ok (.iload 6, 2) := by decide +kernel
theorem d_X0_measureFrom_114 : decode cX0_measureFrom 114 = .ok (.aload_n 0, 1) := by decide +kernel
theorem d_X0_measureFrom_115 : decode cX0_measureFrom 115 = .ok (.getfield 19, 3) := by decide +kernel
theorem d_X0_measureFrom_118 : decode cX0_measureFrom 118 = .ok (.iload 4, 2) := by decide +kernel
theorem d_X0_measureFrom_120 : decode cX0_measureFrom 120 = .ok (.iaload, 1) := by decide +kernel
theorem d_X0_measureFrom_121 : decode cX0_measureFrom 121 = .ok (.iconst 1, 1) := by decide +kernel
theorem d_X0_measureFrom_122 : decode cX0_measureFrom 122 = .ok (.iadd, 1) := by decide +kernel
theorem d_X0_measureFrom_123 : decode cX0_measureFrom 123 = .ok (.iastore, 1) := by decide +kernel
theorem d_X0_measureFrom_124 : decode cX0_measureFrom 124 = .ok (.aload_n 0, 1) := by decide +kernel
theorem d_X0_measureFrom_125 : decode cX0_measureFrom 125 = .ok (.getfield 15, 3) := by decide +kernel
theorem d_X0_measureFrom_128 : decode cX0_measureFrom 128 = .ok (.iload_n 2, 1) := by decide +kernel
theorem d_X0_measureFrom_129 : decode cX0_measureFrom 129 = .ok (.iload 6, 2) := by decide +kernel
theorem d_X0_measureFrom_131 : decode cX0_measureFrom 131 = .ok (.iastore, 1) := by decide +kernel
theorem d_X0_measureFrom_132 : decode cX0_measureFrom 132 = .ok (.iinc 2 1, 3) := by decide +kernel
theorem d_X0_measureFrom_135 : decode cX0_measureFrom 135 = .ok (.iinc 5 1, 3) := by decide +kernel
theorem d_X0_measureFrom_138 : decode cX0_measureFrom 138 = .ok (.goto (-78), 3) := by decide +kernel
theorem d_X0_measureFrom_141 : decode cX0_measureFrom 141 = .ok (.iinc 3 1, 3) := by decide +kernel
theorem d_X0_measureFrom_144 : decode cX0_measureFrom 144 = .ok (.goto (-106), 3) := by decide +kernel
theorem d_X0_measureFrom_147 : decode cX0_measureFrom 147 = .ok (.return_, 1) := by decide +kernel
theorem d_X0_countFrom_0 : decode cX0_countFrom 0 = .ok (.aload_n 0, 1) := by decide +kernel
theorem d_X0_countFrom_1 : decode cX0_countFrom 1 = .ok (.iload_n 1, 1) := by decide +kernel
theorem d_X0_countFrom_2 : decode cX0_countFrom 2 = .ok (.invokevirtual 34, 3) := by decide +kernel
theorem d_X0_countFrom_5 : decode cX0_countFrom 5 = .ok (.iconst 0, 1) := by decide +kernel
theorem d_X0_countFrom_6 : decode cX0_countFrom 6 = .ok (.istore_n 2, 1) := by decide +kernel
theorem d_X0_countFrom_7 : decode cX0_countFrom 7 = .ok (.iconst 0, 1) := by decide +kernel
theorem d_X0_countFrom_8 : decode cX0_countFrom 8 = .ok (.istore_n 3, 1) := by decide +kernel
theorem d_X0_countFrom_9 : decode cX0_countFrom 9 = .ok (.iload_n 3, 1) := by decide +kernel
theorem d_X0_countFrom_10 : decode cX0_countFrom 10 = .ok (.bipush 48, 2) := by decide +kernel
theorem d_X0_countFrom_12 : decode cX0_countFrom 12 = .ok (.if_icmp .ge 22, 3) := by decide +kernel
theorem d_X0_countFrom_15 : decode cX0_countFrom 15 = .ok (.aload_n 0, 1) := by decide +kernel
theorem d_X0_countFrom_16 : decode cX0_countFrom 16 = .ok (.getfield 19, 3) := by decide +kernel
theorem d_X0_countFrom_19 : decode cX0_countFrom 19 = .ok (.iload_n 3, 1) := by decide +kernel
theorem d_X0_countFrom_20 : decode cX0_countFrom 20 = .ok (.iaload, 1) := by decide +kernel
theorem d_X0_countFrom_21 : decode cX0_countFrom 21 = .ok (.iconst (-1), 1) := by decide +kernel
theorem d_X0_countFrom_22 : decode cX0_countFrom 22 = .ok (.if_icmp .eq 6, 3) := by decide +kernel
theorem d_X0_countFrom_25 : decode cX0_countFrom 25 = .ok (.iinc 2 1, 3) := by decide +kernel
theorem d_X0_countFrom_28 : decode cX0_countFrom 28 = .ok (.iinc 3 1, 3) := by decide +kernel
theorem d_X0_countFrom_31 : decode cX0_countFrom 31 = .ok (.goto (-22), 3) := by decide +kernel
theorem d_X0_countFrom_34 : decode cX0_countFrom 34 = .ok (.iload_n 2, 1) := by decide +kernel
theorem d_X0_countFrom_35 : decode cX0_countFrom 35 = .ok (.ireturn, 1) := by decide +kernel
theorem d_X0_farthestFrom_0 : decode cX0_farthestFrom 0 = .ok (.aload_n 0, 1) := by decide +kernel
theorem d_X0_farthestFrom_1 : decode cX0_farthestFrom 1 = .ok (.iload_n 1, 1) := by decide +kernel
theorem d_X0_farthestFrom_2 : decode cX0_farthestFrom 2 = .ok (.invokevirtual 34, 3) := by decide +kernel
theorem d_X0_farthestFrom_5 : decode cX0_farthestFrom 5 = .ok (.iload_n 1, 1) := by decide +kernel
theorem d_X0_farthestFrom_6 : decode cX0_farthestFrom 6 = .ok (.istore_n 2, 1) := by decide +kernel
theorem d_X0_farthestFrom_7 : decode cX0_farthestFrom 7 = .ok (.iconst 0, 1) := by decide +kernel
theorem d_X0_farthestFrom_8 : decode cX0_farthestFrom 8 = .ok (.istore_n 3, 1) := by decide +kernel
theorem d_X0_farthestFrom_9 : decode cX0_farthestFrom 9 = .ok (.iload_n 3, 1) := by decide +kernel
theorem d_X0_farthestFrom_10 : decode cX0_farthestFrom 10 = .ok (.bipush 48, 2) := by decide +kernel
theorem d_X0_farthestFrom_12 : decode cX0_farthestFrom 12 = .ok (.if_icmp .ge 25, 3) := by decide +kernel
theorem d_X0_farthestFrom_15 : decode cX0_farthestFrom 15 = .ok (.aload_n 0, 1) := by decide +kernel
theorem d_X0_farthestFrom_16 : decode cX0_farthestFrom 16 = .ok (.getfield 19, 3) := by decide +kernel
theorem d_X0_farthestFrom_19 : decode cX0_farthestFrom 19 = .ok (.iload_n 3, 1) := by decide +kernel
theorem d_X0_farthestFrom_20 : decode cX0_farthestFrom 20 = .ok (.iaload, 1) := by decide +kernel
theorem d_X0_farthestFrom_21 : decode cX0_farthestFrom 21 = .ok (.aload_n 0, 1) := by decide +kernel
theorem d_X0_farthestFrom_22 : decode cX0_farthestFrom 22 = .ok (.iload_n 2, 1) := by decide +kernel
theorem d_X0_farthestFrom_23 : decode cX0_farthestFrom 23 = .ok (.invokevirtual 38, 3) := by decide +kernel
theorem d_X0_farthestFrom_26 : decode cX0_farthestFrom 26 = .ok (.if_icmp .le 5, 3) := by decide +kernel
theorem d_X0_farthestFrom_29 : decode cX0_farthestFrom 29 = .ok (.iload_n 3, 1) := by decide +kernel
theorem d_X0_farthestFrom_30 : decode cX0_farthestFrom 30 = .ok (.istore_n 2, 1) := by decide +kernel
theorem d_X0_farthestFrom_31 : decode cX0_farthestFrom 31 = .ok (.iinc 3 1, 3) := by decide +kernel
theorem d_X0_farthestFrom_34 : decode cX0_farthestFrom 34 = .ok (.goto (-25), 3) := by decide +kernel
theorem d_X0_farthestFrom_37 : decode cX0_farthestFrom 37 = .ok (.iload_n 2, 1) := by decide +kernel
theorem d_X0_farthestFrom_38 : decode cX0_farthestFrom 38 = .ok (.ireturn, 1) := by decide +kernel
theorem d_X0_bestRobotFor_0 : decode cX0_bestRobotFor 0 = .ok (.iconst (-1), 1) := by decide +kernel
theorem d_X0_bestRobotFor_1 : decode cX0_bestRobotFor 1 = .ok (.istore_n 2, 1) := by decide +kernel
theorem d_X0_bestRobotFor_2 : decode cX0_bestRobotFor 2 = .ok (.iconst (-1), 1) := by decide +kernel
theorem d_X0_bestRobotFor_3 : decode cX0_bestRobotFor 3 = .ok (.istore_n 3, 1) := by decide +kernel
theorem d_X0_bestRobotFor_4 : decode cX0_bestRobotFor 4 = .ok (.iconst 0, 1) := by decide +kernel
theorem d_X0_bestRobotFor_5 : decode cX0_bestRobotFor 5 = .ok (.istore 4, 2) := by decide +kernel
theorem d_X0_bestRobotFor_7 : decode cX0_bestRobotFor 7 = .ok (.aload_n 0, 1) := by decide +kernel
theorem d_X0_bestRobotFor_8 : decode cX0_bestRobotFor 8 = .ok (.getfield 9, 3) := by decide +kernel
theorem d_X0_bestRobotFor_11 : decode cX0_bestRobotFor 11 = .ok (.iload 4, 2) := by decide +kernel
theorem d_X0_bestRobotFor_13 : decode cX0_bestRobotFor 13 = .ok (.invokevirtual 61, 3) := by decide +kernel
theorem d_X0_bestRobotFor_16 : decode cX0_bestRobotFor 16 = .ok (.ifCond .eq 86, 3) := by decide +kernel
theorem d_X0_bestRobotFor_19 : decode cX0_bestRobotFor 19 = .ok (.iload 4, 2) := by decide +kernel
theorem d_X0_bestRobotFor_21 : decode cX0_bestRobotFor 21 = .ok (.bipush 6, 2) := by decide +kernel
theorem d_X0_bestRobotFor_23 : decode cX0_bestRobotFor 23 = .ok (.if_icmp .ge 79, 3) := by decide +kernel
theorem d_X0_bestRobotFor_26 : decode cX0_bestRobotFor 26 = .ok (.aload_n 0, 1) := by decide +kernel
theorem d_X0_bestRobotFor_27 : decode cX0_bestRobotFor 27 = .ok (.getfield 9, 3) := by decide +kernel
theorem d_X0_bestRobotFor_30 : decode cX0_bestRobotFor 30 = .ok (.getfield 64, 3) := by decide +kernel
theorem d_X0_bestRobotFor_33 : decode cX0_bestRobotFor 33 = .ok (.iload 4, 2) := by decide +kernel
theorem d_X0_bestRobotFor_35 : decode cX0_bestRobotFor 35 = .ok (.aaload, 1) := by decide +kernel
theorem d_X0_bestRobotFor_36 : decode cX0_bestRobotFor 36 = .ok (.getfield 68, 3) := by decide +kernel
theorem d_X0_bestRobotFor_39 : decode cX0_bestRobotFor 39 = .ok (.iconst (-1), 1) := by decide +kernel
theorem d_X0_bestRobotFor_40 : decode cX0_bestRobotFor 40 = .ok (.if_icmp .eq 6, 3) := by decide +kernel
theorem d_X0_bestRobotFor_43 : decode cX0_bestRobotFor 43 = .ok (.goto 53, 3) := by decide +kernel
theorem d_X0_bestRobotFor_46 : decode cX0_bestRobotFor 46 = .ok (.aload_n 0, 1) := by decide +kernel
theorem d_X0_bestRobotFor_47 : decode cX0_bestRobotFor 47 = .ok (.aload_n 0, 1) := by decide +kernel
theorem d_X0_bestRobotFor_48 : decode cX0_bestRobotFor 48 = .ok (.getfield 9, 3) := by decide +kernel
theorem d_X0_bestRobotFor_51 : decode cX0_bestRobotFor 51 = .ok (.getfield 64, 3) := by decide +kernel
theorem d_X0_bestRobotFor_54 : decode cX0_bestRobotFor 54 = .ok (.iload 4, 2) := by decide +kernel
theorem d_X0_bestRobotFor_56 : decode cX0_bestRobotFor 56 = .ok (.aaload, 1) := by decide +kernel
theorem d_X0_bestRobotFor_57 : decode cX0_bestRobotFor 57 = .ok (.getfield 74, 3) := by decide +kernel
theorem d_X0_bestRobotFor_60 : decode cX0_bestRobotFor 60 = .ok (.iload_n 1, 1) := by decide +kernel
theorem d_X0_bestRobotFor_61 : decode cX0_bestRobotFor 61 = .ok (.invokevirtual 77, 3) := by decide +kernel
theorem d_X0_bestRobotFor_64 : decode cX0_bestRobotFor 64 = .ok (.istore 5, 2) := by decide +kernel
theorem d_X0_bestRobotFor_66 : decode cX0_bestRobotFor 66 = .ok (.iload 5, 2) := by decide +kernel
theorem d_X0_bestRobotFor_68 : decode cX0_bestRobotFor 68 = .ok (.iconst (-1), 1) := by decide +kernel
theorem d_X0_bestRobotFor_69 : decode cX0_bestRobotFor 69 = .ok (.if_icmp .eq 27, 3) := by decide +kernel
theorem d_X0_bestRobotFor_72 : decode cX0_bestRobotFor 72 = .ok (.iload_n 2, 1) := by decide +kernel
theorem d_X0_bestRobotFor_73 : decode cX0_bestRobotFor 73 = .ok (.iconst (-1), 1) := by decide +kernel
theorem d_X0_bestRobotFor_74 : decode cX0_bestRobotFor 74 = .ok (.if_icmp .eq 16, 3) := by decide +kernel
theorem d_X0_bestRobotFor_77 : decode cX0_bestRobotFor 77 = .ok (.aload_n 0, 1) := by decide +kernel
theorem d_X0_bestRobotFor_78 : decode cX0_bestRobotFor 78 = .ok (.iload 4, 2) := by decide +kernel
theorem d_X0_bestRobotFor_80 : decode cX0_bestRobotFor 80 = .ok (.iload 5, 2) := by decide +kernel
theorem d_X0_bestRobotFor_82 : decode cX0_bestRobotFor 82 = .ok (.iload_n 2, 1) := by decide +kernel
theorem d_X0_bestRobotFor_83 : decode cX0_bestRobotFor 83 = .ok (.iload_n 3, 1) := by decide +kernel
theorem d_X0_bestRobotFor_84 : decode cX0_bestRobotFor 84 = .ok (.invokevirtual 80, 3) := by decide +kernel
theorem d_X0_bestRobotFor_87 : decode cX0_bestRobotFor 87 = .ok (.ifCond .eq 9, 3) := by decide +kernel
theorem d_X0_bestRobotFor_90 : decode cX0_bestRobotFor 90 = .ok (.iload 4, 2) := by decide +kernel
theorem d_X0_bestRobotFor_92 : decode cX0_bestRobotFor 92 = .ok (.istore_n 2, 1) := by decide +kernel
theorem d_X0_bestRobotFor_93 : decode cX0_bestRobotFor 93 = .ok (.iload 5, 2) := by decide +kernel
theorem d_X0_bestRobotFor_95 : decode cX0_bestRobotFor 95 = .ok (.istore_n 3, 1) := by decide +kernel
theorem d_X0_bestRobotFor_96 : decode cX0_bestRobotFor 96 = .ok (.iinc 4 1, 3) := by decide +kernel
theorem d_X0_bestRobotFor_99 : decode cX0_bestRobotFor 99 = .ok (.goto (-92), 3) := by decide +kernel
theorem d_X0_bestRobotFor_102 : decode cX0_bestRobotFor 102 = .ok (.iload_n 2, 1) := by decide +kernel
theorem d_X0_bestRobotFor_103 : decode cX0_bestRobotFor 103 = .ok (.ireturn, 1) := by decide +kernel
theorem d_X0_isBetter_0 : decode cX0_isBetter 0 = .ok (.iload_n 2, 1) := by decide +kernel
theorem d_X0_isBetter_1 : decode cX0_isBetter 1 = .ok (.iload 4, 2) := by decide +kernel
theorem d_X0_isBetter_3 : decode cX0_isBetter 3 = .ok (.if_icmp .eq 15, 3) := by decide +kernel
theorem d_X0_isBetter_6 : decode cX0_isBetter 6 = .ok (.iload_n 2, 1) := by decide +kernel
theorem d_X0_isBetter_7 : decode cX0_isBetter 7 = .ok (.iload 4, 2) := by decide +kernel
theorem d_X0_isBetter_9 : decode cX0_isBetter 9 = .ok (.if_icmp .ge 7, 3) := by decide +kernel
theorem d_X0_isBetter_12 : decode cX0_isBetter 12 = .ok (.iconst 1, 1) := by decide +kernel
theorem d_X0_isBetter_13 : decode cX0_isBetter 13 = .ok (.goto 4, 3) := by decide +kernel
theorem d_X0_isBetter_16 : decode cX0_isBetter 16 = .ok (.iconst 0, 1) := by decide +kernel
theorem d_X0_isBetter_17 : decode cX0_isBetter 17 = .ok (.ireturn, 1) := by decide +kernel
theorem d_X0_isBetter_18 : decode cX0_isBetter 18 = .ok (.aload_n 0, 1) := by decide +kernel
theorem d_X0_isBetter_19 : decode cX0_isBetter 19 = .ok (.getfield 9, 3) := by decide +kernel
theorem d_X0_isBetter_22 : decode cX0_isBetter 22 = .ok (.getfield 64, 3) := by decide +kernel
theorem d_X0_isBetter_25 : decode cX0_isBetter 25 = .ok (.iload_n 1, 1) := by decide +kernel
theorem d_X0_isBetter_26 : decode cX0_isBetter 26 = .ok (.aaload, 1) := by decide +kernel
theorem d_X0_isBetter_27 : decode cX0_isBetter 27 = .ok (.getfield 84, 3) := by decide +kernel
theorem d_X0_isBetter_30 : decode cX0_isBetter 30 = .ok (.aload_n 0, 1) := by decide +kernel
theorem d_X0_isBetter_31 : decode cX0_isBetter 31 = .ok (.getfield 9, 3) := by decide +kernel
theorem d_X0_isBetter_34 : decode cX0_isBetter 34 = .ok (.getfield 64, 3) := by decide +kernel
theorem d_X0_isBetter_37 : decode cX0_isBetter 37 = .ok (.iload_n 3, 1) := by decide +kernel
theorem d_X0_isBetter_38 : decode cX0_isBetter 38 = .ok (.aaload, 1) := by decide +kernel
theorem d_X0_isBetter_39 : decode cX0_isBetter 39 = .ok (.getfield 84, 3) := by decide +kernel
theorem d_X0_isBetter_42 : decode cX0_isBetter 42 = .ok (.if_icmp .le 7, 3) := by decide +kernel
theorem d_X0_isBetter_45 : decode cX0_isBetter 45 = .ok (.iconst 1, 1) := by decide +kernel
theorem d_X0_isBetter_46 : decode cX0_isBetter 46 = .ok (.goto 4, 3) := by decide +kernel
theorem d_X0_isBetter_49 : decode cX0_isBetter 49 = .ok (.iconst 0, 1) := by decide +kernel
theorem d_X0_isBetter_50 : decode cX0_isBetter 50 = .ok (.ireturn, 1) := by decide +kernel
theorem d_X0_betweenByTable_0 : decode cX0_betweenByTable 0 = .ok (.aload_n 0, 1) := by decide +kernel
theorem d_X0_betweenByTable_1 : decode cX0_betweenByTable 1 = .ok (.getfield 9, 3) := by decide +kernel
theorem d_X0_betweenByTable_4 : decode cX0_betweenByTable 4 = .ok (.iload_n 1, 1) := by decide +kernel
theorem d_X0_betweenByTable_5 : decode cX0_betweenByTable 5 = .ok (.invokevirtual 42, 3) := by decide +kernel
theorem d_X0_betweenByTable_8 : decode cX0_betweenByTable 8 = .ok (.ifCond .eq 14, 3) := by decide +kernel
theorem d_X0_betweenByTable_11 : decode cX0_betweenByTable 11 = .ok (.aload_n 0, 1) := by decide +kernel
theorem d_X0_betweenByTable_12 : decode cX0_betweenByTable 12 = .ok (.getfield 9, 3) := by decide +kernel
theorem d_X0_betweenByTable_15 : decode cX0_betweenByTable 15 = .ok (.iload_n 2, 1) := by decide +kernel
theorem d_X0_betweenByTable_16 : decode cX0_betweenByTable 16 = .ok (.invokevirtual 42, 3) := by decide +kernel
theorem d_X0_betweenByTable_19 : decode cX0_betweenByTable 19 = .ok (.ifCond .ne 5, 3) := by decide +kernel
theorem d_X0_betweenByTable_22 : decode cX0_betweenByTable 22 = .ok (.iconst (-1), 1) := by decide +kernel
theorem d_X0_betweenByTable_23 : decode cX0_betweenByTable 23 = .ok (.ireturn, 1) := by decide +kernel
theorem d_X0_betweenByTable_24 : decode cX0_betweenByTable 24 = .ok (.aload_n 0, 1) := by decide +kernel
theorem d_X0_betweenByTable_25 : decode cX0_betweenByTable 25 = .ok (.invokevirtual 101, 3) := by decide +kernel
theorem d_X0_betweenByTable_28 : decode cX0_betweenByTable 28 = .ok (.aload_n 0, 1) := by decide +kernel
theorem d_X0_betweenByTable_29 : decode cX0_betweenByTable 29 = .ok (.getfield 24, 3) := by decide +kernel
theorem d_X0_betweenByTable_32 : decode cX0_betweenByTable 32 = .ok (.iload_n 1, 1) := by decide +kernel
theorem d_X0_betweenByTable_33 : decode cX0_betweenByTable 33 = .ok (.aaload, 1) := by decide +kernel
theorem d_X0_betweenByTable_34 : decode cX0_betweenByTable 34 = .ok (.iload_n 2, 1) := by decide +kernel
theorem d_X0_betweenByTable_35 : decode cX0_betweenByTable 35 = .ok (.iaload, 1) := by decide +kernel
theorem d_X0_betweenByTable_36 : decode cX0_betweenByTable 36 = .ok (.ireturn, 1) := by decide +kernel
theorem d_X0_renewTable_0 : decode cX0_renewTable 0 = .ok (.aload_n 0, 1) := by decide +kernel
theorem d_X0_renewTable_1 : decode cX0_renewTable 1 = .ok (.invokevirtual 104, 3) := by decide +kernel
theorem d_X0_renewTable_4 : decode cX0_renewTable 4 = .ok (.lstore_n 1, 1) := by decide +kernel
theorem d_X0_renewTable_5 : decode cX0_renewTable 5 = .ok (.aload_n 0, 1) := by decide +kernel
theorem d_X0_renewTable_6 : decode cX0_renewTable 6 = .ok (.getfield 108, 3) := by decide +kernel
theorem d_X0_renewTable_9 : decode cX0_renewTable 9 = .ok (.aload_n 0, 1) := by decide +kernel
theorem d_X0_renewTable_10 : decode cX0_renewTable 10 = .ok (.getfield 9, 3) := by decide +kernel
theorem d_X0_renewTable_13 : decode cX0_renewTable 13 = .ok (.getfield 111, 3) := by decide +kernel
theorem d_X0_renewTable_16 : decode cX0_renewTable 16 = .ok (.if_icmp .ne 27, 3) := by decide +kernel
theorem d_X0_renewTable_19 : decode cX0_renewTable 19 = .ok (.aload_n 0, 1) := by decide +kernel
theorem d_X0_renewTable_20 : decode cX0_renewTable 20 = .ok (.getfield 114, 3) := by decide +kernel
theorem d_X0_renewTable_23 : decode cX0_renewTable 23 = .ok (.aload_n 0, 1) := by decide +kernel
theorem d_X0_renewTable_24 : decode cX0_renewTable 24 = .ok (.getfield 9, 3) := by decide +kernel
theorem d_X0_renewTable_27 : decode cX0_renewTable 27 = .ok (.getfield 117, 3) := by decide +kernel
theorem d_X0_renewTable_30 : decode cX0_renewTable 30 = .ok (.if_icmp .ne 13, 3) := by decide +kernel
theorem d_X0_renewTable_33 : decode cX0_renewTable 33 = .ok (.aload_n 0, 1) := by decide +kernel
theorem d_X0_renewTable_34 : decode cX0_renewTable 34 = .ok (.getfield 120, 3) := by decide +kernel
theorem d_X0_renewTable_37 : decode cX0_renewTable 37 = .ok (.lload_n 1, 1) := by decide +kernel
theorem d_X0_renewTable_38 : decode cX0_renewTable 38 = .ok (.lcmp, 1) := by decide +kernel
theorem d_X0_renewTable_39 : decode cX0_renewTable 39 = .ok (.ifCond .ne 4, 3) := by decide +kernel
theorem d_X0_renewTable_42 : decode cX0_renewTable 42 = .ok (.return_, 1) := by decide +kernel
theorem d_X0_renewTable_43 : decode cX0_renewTable 43 = .ok (.aload_n 0, 1) := by decide +kernel
theorem d_X0_renewTable_44 : decode cX0_renewTable 44 = .ok (.aload_n 0, 1) := by decide +kernel
theorem d_X0_renewTable_45 : decode cX0_renewTable 45 = .ok (.getfield 9, 3) := by decide +kernel
theorem d_X0_renewTable_48 : decode cX0_renewTable 48 = .ok (.getfield 111, 3) := by decide +kernel
theorem d_X0_renewTable_51 : decode cX0_renewTable 51 = .ok (.putfield 108, 3) := by decide +kernel
theorem d_X0_renewTable_54 : decode cX0_renewTable 54 = .ok (.aload_n 0, 1) := by decide +kernel
theorem d_X0_renewTable_55 : decode cX0_renewTable 55 = .ok (.aload_n 0, 1) := by decide +kernel
theorem d_X0_renewTable_56 : decode cX0_renewTable 56 = .ok (.getfield 9, 3) := by decide +kernel
theorem d_X0_renewTable_59 : decode cX0_renewTable 59 = .ok (.getfield 117, 3) := by decide +kernel
theorem d_X0_renewTable_62 : decode cX0_renewTable 62 = .ok (.putfield 114, 3) := by decide +kernel
theorem d_X0_renewTable_65 : decode cX0_renewTable 65 = .ok (.aload_n 0, 1) := by decide +kernel
theorem d_X0_renewTable_66 : decode cX0_renewTable 66 = .ok (.lload_n 1, 1) := by decide +kernel
theorem d_X0_renewTable_67 : decode cX0_renewTable 67 = .ok (.putfield 120, 3) := by decide +kernel
theorem d_X0_renewTable_70 : decode cX0_renewTable 70 = .ok (.aload_n 0, 1) := by decide +kernel
theorem d_X0_renewTable_71 : decode cX0_renewTable 71 = .ok (.invokevirtual 124, 3) := by decide +kernel
theorem d_X0_renewTable_74 : decode cX0_renewTable 74 = .ok (.return_, 1) := by decide +kernel
theorem d_X0_openCells_0 : decode cX0_openCells 0 = .ok (.lconst 0, 1) := by decide +kernel
theorem d_X0_openCells_1 : decode cX0_openCells 1 = .ok (.lstore_n 1, 1) := by decide +kernel
theorem d_X0_openCells_2 : decode cX0_openCells 2 = .ok (.iconst 0, 1) := by decide +kernel
theorem d_X0_openCells_3 : decode cX0_openCells 3 = .ok (.istore_n 3, 1) := by decide +kernel
theorem d_X0_openCells_4 : decode cX0_openCells 4 = .ok (.aload_n 0, 1) := by decide +kernel
theorem d_X0_openCells_5 : decode cX0_openCells 5 = .ok (.getfield 9, 3) := by decide +kernel
theorem d_X0_openCells_8 : decode cX0_openCells 8 = .ok (.iload_n 3, 1) := by decide +kernel
theorem d_X0_openCells_9 : decode cX0_openCells 9 = .ok (.invokevirtual 42, 3) := by decide +kernel
theorem d_X0_openCells_12 : decode cX0_openCells 12 = .ok (.ifCond .eq 32, 3) := by decide +kernel
theorem d_X0_openCells_15 : decode cX0_openCells 15 = .ok (.iload_n 3, 1) := by decide +kernel
theorem d_X0_openCells_16 : decode cX0_openCells 16 = .ok (.bipush 48, 2) := by decide +kernel
theorem d_X0_openCells_18 : decode cX0_openCells 18 = .ok (.if_icmp .ge 26, 3) := by decide +kernel
theorem d_X0_openCells_21 : decode cX0_openCells 21 = .ok (.aload_n 0, 1) := by decide +kernel
theorem d_X0_openCells_22 : decode cX0_openCells 22 = .ok (.getfield 9, 3) := by decide +kernel
theorem d_X0_openCells_25 : decode cX0_openCells 25 = .ok (.iload_n 3, 1) := by decide +kernel
theorem d_X0_openCells_26 : decode cX0_openCells 26 = .ok (.invokevirtual 58, 3) := by decide +kernel
theorem d_X0_openCells_29 : decode cX0_openCells 29 = .ok (.ifCond .eq 9, 3) := by decide +kernel
theorem d_X0_openCells_32 : decode cX0_openCells 32 = .ok (.lload_n 1, 1) := by decide +kernel
theorem d_X0_openCells_33 : decode cX0_openCells 33 = .ok (.lconst 1, 1) := by decide +kernel
theorem d_X0_openCells_34 : decode cX0_openCells 34 = .ok (.iload_n 3, 1) := by decide +kernel
theorem d_X0_openCells_35 : decode cX0_openCells 35 = .ok (.lshl, 1) := by decide +kernel
theorem d_X0_openCells_36 : decode cX0_openCells 36 = .ok (.lor, 1) := by decide +kernel
theorem d_X0_openCells_37 : decode cX0_openCells 37 = .ok (.lstore_n 1, 1) := by decide +kernel
theorem d_X0_openCells_38 : decode cX0_openCells 38 = .ok (.iinc 3 1, 3) := by decide +kernel
theorem d_X0_openCells_41 : decode cX0_openCells 41 = .ok (.goto (-37), 3) := by decide +kernel
theorem d_X0_openCells_44 : decode cX0_openCells 44 = .ok (.lload_n 1, 1) := by decide +kernel
theorem d_X0_openCells_45 : decode cX0_openCells 45 = .ok (.lreturn, 1) := by decide +kernel
theorem d_X0_fillTable_0 : decode cX0_fillTable 0 = .ok (.iconst 0, 1) := by decide +kernel
theorem d_X0_fillTable_1 : decode cX0_fillTable 1 = .ok (.istore_n 1, 1) := by decide +kernel
theorem d_X0_fillTable_2 : decode cX0_fillTable 2 = .ok (.iload_n 1, 1) := by decide +kernel
theorem d_X0_fillTable_3 : decode cX0_fillTable 3 = .ok (.bipush 48, 2) := by decide +kernel
theorem d_X0_fillTable_5 : decode cX0_fillTable 5 = .ok (.if_icmp .ge 37, 3) := by decide +kernel
theorem d_X0_fillTable_8 : decode cX0_fillTable 8 = .ok (.aload_n 0, 1) := by decide +kernel
theorem d_X0_fillTable_9 : decode cX0_fillTable 9 = .ok (.getfield 24, 3) := by decide +kernel
theorem d_X0_fillTable_12 : decode cX0_fillTable 12 = .ok (.iload_n 1, 1) := by decide +kernel
theorem d_X0_fillTable_13 : decode cX0_fillTable 13 = .ok (.aaload, 1) := by decide +kernel
theorem d_X0_fillTable_14 : decode cX0_fillTable 14 = .ok (.iconst (-1), 1) := by decide +kernel
theorem d_X0_fillTable_15 : decode cX0_fillTable 15 = .ok (.invokestatic 48, 3) := by decide +kernel
theorem d_X0_fillTable_18 : decode cX0_fillTable 18 = .ok (.aload_n 0, 1) := by decide +kernel
theorem d_X0_fillTable_19 : decode cX0_fillTable 19 = .ok (.getfield 24, 3) := by decide +kernel
theorem d_X0_fillTable_22 : decode cX0_fillTable 22 = .ok (.iload_n 1, 1) := by decide +kernel
theorem d_X0_fillTable_23 : decode cX0_fillTable 23 = .ok (.aaload, 1) := by decide +kernel
theorem d_X0_fillTable_24 : decode cX0_fillTable 24 = .ok (.iload_n 1, 1) := by decide +kernel
theorem d_X0_fillTable_25 : decode cX0_fillTable 25 = .ok (.iconst 0, 1) := by decide +kernel
theorem d_X0_fillTable_26 : decode cX0_fillTable 26 = .ok (.iastore, 1) := by decide +kernel
theorem d_X0_fillTable_27 : decode cX0_fillTable 27 = .ok (.aload_n 0, 1) := by decide +kernel
theorem d_X0_fillTable_28 : decode cX0_fillTable 28 = .ok (.getfield 27, 3) := by decide +kernel
theorem d_X0_fillTable_31 : decode cX0_fillTable 31 = .ok (.iload_n 1, 1) := by decide +kernel
theorem d_X0_fillTable_32 : decode cX0_fillTable 32 = .ok (.lconst 1, 1) := by decide +kernel
theorem d_X0_fillTable_33 : decode cX0_fillTable 33 = .ok (.iload_n 1, 1) := by decide +kernel
theorem d_X0_fillTable_34 : decode cX0_fillTable 34 = .ok (.lshl, 1) := by decide +kernel
theorem d_X0_fillTable_35 : decode cX0_fillTable 35 = .ok (.lastore, 1) := by decide +kernel
theorem d_X0_fillTable_36 : decode cX0_fillTable 36 = .ok (.iinc 1 1, 3) := by decide +kernel
theorem d_X0_fillTable_39 : decode cX0_fillTable 39 = .ok (.goto (-37), 3) := by decide +kernel
theorem d_X0_fillTable_42 : decode cX0_fillTable 42 = .ok (.iconst 1, 1) := by decide +kernel
theorem d_X0_fillTable_43 : decode cX0_fillTable 43 = .ok (.istore_n 1, 1) := by decide +kernel
theorem d_X0_fillTable_44 : decode cX0_fillTable 44 = .ok (.iconst 1, 1) := by decide +kernel
theorem d_X0_fillTable_45 : decode cX0_fillTable 45 = .ok (.istore_n 2, 1) := by decide +kernel
theorem d_X0_fillTable_46 : decode cX0_fillTable 46 = .ok (.iload_n 1, 1) := by decide +kernel
theorem d_X0_fillTable_47 : decode cX0_fillTable 47 = .ok (.ifCond .eq 115, 3) := by decide +kernel
theorem d_X0_fillTable_50 : decode cX0_fillTable 50 = .ok (.iload_n 2, 1) := by decide +kernel
theorem d_X0_fillTable_51 : decode cX0_fillTable 51 = .ok (.bipush 48, 2) := by decide +kernel
theorem d_X0_fillTable_53 : decode cX0_fillTable 53 = .ok (.if_icmp .ge 109, 3) := by decide +kernel
theorem d_X0_fillTable_56 : decode cX0_fillTable 56 = .ok (.iconst 0, 1) := by decide +kernel
theorem d_X0_fillTable_57 : decode cX0_fillTable 57 = .ok (.istore_n 1, 1) := by decide +kernel
theorem d_X0_fillTable_58 : decode cX0_fillTable 58 = .ok (.iconst 0, 1) := by decide +kernel
theorem d_X0_fillTable_59 : decode cX0_fillTable 59 = .ok (.istore_n 3, 1) := by decide +kernel
theorem d_X0_fillTable_60 : decode cX0_fillTable 60 = .ok (.aload_n 0, 1) := by decide +kernel
theorem d_X0_fillTable_61 : decode cX0_fillTable 61 = .ok (.getfield 9, 3) := by decide +kernel
theorem d_X0_fillTable_64 : decode cX0_fillTable 64 = .ok (.iload_n 3, 1) := by decide +kernel
theorem d_X0_fillTable_65 : decode cX0_fillTable 65 = .ok (.invokevirtual 42, 3) := by decide +kernel
theorem d_X0_fillTable_68 : decode cX0_fillTable 68 = .ok (.ifCond .eq 73, 3) := by decide +kernel
theorem d_X0_fillTable_71 : decode cX0_fillTable 71 = .ok (.iload_n 3, 1) := by decide +kernel
theorem d_X0_fillTable_72 : decode cX0_fillTable 72 = .ok (.bipush 48, 2) := by decide +kernel
theorem d_X0_fillTable_74 : decode cX0_fillTable 74 = .ok (.if_icmp .ge 67, 3) := by decide +kernel
theorem d_X0_fillTable_77 : decode cX0_fillTable 77 = .ok (.aload_n 0, 1) := by decide +kernel
theorem d_X0_fillTable_78 : decode cX0_fillTable 78 = .ok (.getfield 31, 3) := by decide +kernel
theorem d_X0_fillTable_81 : decode cX0_fillTable 81 = .ok (.iload_n 3, 1) := by decide +kernel
theorem d_X0_fillTable_82 : decode cX0_fillTable 82 = .ok (.aload_n 0, 1) := by decide +kernel
theorem d_X0_fillTable_83 : decode cX0_fillTable 83 = .ok (.getfield 27, 3) := by decide +kernel
theorem d_X0_fillTable_86 : decode cX0_fillTable 86 = .ok (.iload_n 3, 1) := by decide +kernel
theorem d_X0_fillTable_87 : decode cX0_fillTable 87 = .ok (.laload, 1) := by decide +kernel
theorem d_X0_fillTable_88 : decode cX0_fillTable 88 = .ok (.aload_n 0, 1) := by decide +kernel
theorem d_X0_fillTable_89 : decode cX0_fillTable 89 = .ok (.iload_n 3, 1) := by decide +kernel
theorem d_X0_fillTable_90 : decode cX0_fillTable 90 = .ok (.invokevirtual 127, 3) := by decide +kernel
theorem d_X0_fillTable_93 : decode cX0_fillTable 93 = .ok (.lor, 1) := by decide +kernel
theorem d_X0_fillTable_94 : decode cX0_fillTable 94 = .ok (.lastore, 1) := by decide +kernel
theorem d_X0_fillTable_95 : decode cX0_fillTable 95 = .ok (.aload_n 0, 1) := by decide +kernel
theorem d_X0_fillTable_96 : decode cX0_fillTable 96 = .ok (.getfield 31, 3) := by decide +kernel
theorem d_X0_fillTable_99 : decode cX0_fillTable 99 = .ok (.iload_n 3, 1) := by decide +kernel
theorem d_X0_fillTable_100 : decode cX0_fillTable 100 = .ok (.laload, 1) := by decide +kernel
theorem d_X0_fillTable_101 : decode cX0_fillTable 101 = .ok (.aload_n 0, 1) := by decide +kernel
theorem d_X0_fillTable_102 : decode cX0_fillTable 102 = .ok (.getfield 27, 3) := by decide +kernel
theorem d_X0_fillTable_105 : decode cX0_fillTable 105 = .ok (.iload_n 3, 1) := by decide +kernel
theorem d_X0_fillTable_106 : decode cX0_fillTable 106 = .ok (.laload, 1) := by decide +kernel
theorem d_X0_fillTable_107 : decode cX0_fillTable 107 = .ok (.ldc2_w 131, 3) := by decide +kernel
theorem d_X0_fillTable_110 : decode cX0_fillTable 110 = .ok (.lxor, 1) := by decide +kernel
theorem d_X0_fillTable_111 : decode cX0_fillTable 111 = .ok (.land, 1) := by decide +kernel
theorem d_X0_fillTable_112 : decode cX0_fillTable 112 = .ok (.lstore 4, 2) := by decide +kernel
theorem d_X0_fillTable_114 : decode cX0_fillTable 114 = .ok (.lload 4, 2) := by decide +kernel
theorem d_X0_fillTable_116 : decode cX0_fillTable 116 = .ok (.lconst 0, 1) := by decide +kernel
theorem d_X0_fillTable_117 : decode cX0_fillTable 117 = .ok (.lcmp, 1) := by decide +kernel
theorem d_X0_fillTable_118 : decode cX0_fillTable 118 = .ok (.ifCond .eq 17, 3) := by decide +kernel
theorem d_X0_fillTable_121 : decode cX0_fillTable 121 = .ok (.iconst 1, 1) := by decide +kernel
theorem d_X0_fillTable_122 : decode cX0_fillTable 122 = .ok (.istore_n 1, 1) := by decide +kernel
theorem d_X0_fillTable_123 : decode cX0_fillTable 123 = .ok (.aload_n 0, 1) := by decide +kernel
theorem d_X0_fillTable_124 : decode cX0_fillTable 124 = .ok (.getfield 24, 3) := by decide +kernel
theorem d_X0_fillTable_127 : decode cX0_fillTable 127 = .ok (.iload_n 3, 1) := by decide +kernel
theorem d_X0_fillTable_128 : decode cX0_fillTable 128 = .ok (.aaload, 1) := by decide +kernel
theorem d_X0_fillTable_129 : decode cX0_fillTable 129 = .ok (.lload 4, 2) := by decide +kernel
theorem d_X0_fillTable_131 : decode cX0_fillTable 131 = .ok (.iload_n 2, 1) := by decide +kernel
theorem d_X0_fillTable_132 : decode cX0_fillTable 132 = .ok (.invokestatic 133, 3) := by decide +kernel
theorem d_X0_fillTable_135 : decode cX0_fillTable 135 = .ok (.iinc 3 1, 3) := by decide +kernel
theorem d_X0_fillTable_138 : decode cX0_fillTable 138 = .ok (.goto (-78), 3) := by decide +kernel
theorem d_X0_fillTable_141 : decode cX0_fillTable 141 = .ok (.aload_n 0, 1) := by decide +kernel
theorem d_X0_fillTable_142 : decode cX0_fillTable 142 = .ok (.getfield 31, 3) := by decide +kernel
theorem d_X0_fillTable_145 : decode cX0_fillTable 145 = .ok (.iconst 0, 1) := by decide +kernel
theorem d_X0_fillTable_146 : decode cX0_fillTable 146 = .ok (.aload_n 0, 1) := by decide +kernel
theorem d_X0_fillTable_147 : decode cX0_fillTable 147 = .ok (.getfield 27, 3) := by decide +kernel
theorem d_X0_fillTable_150 : decode cX0_fillTable 150 = .ok (.iconst 0, 1) := by decide +kernel
theorem d_X0_fillTable_151 : decode cX0_fillTable 151 = .ok (.bipush 48, 2) := by decide +kernel
theorem d_X0_fillTable_153 : decode cX0_fillTable 153 = .ok (.invokestatic 137, 3) := by decide +kernel
theorem d_X0_fillTable_156 : decode cX0_fillTable 156 = .ok (.iinc 2 1, 3) := by decide +kernel
theorem d_X0_fillTable_159 : decode cX0_fillTable 159 = .ok (.goto (-113), 3) := by decide +kernel
theorem d_X0_fillTable_162 : decode cX0_fillTable 162 = .ok (.return_, 1) := by decide +kernel
theorem d_X0_nearOfNeighbors_0 : decode cX0_nearOfNeighbors 0 = .ok (.lconst 0, 1) := by decide +kernel
theorem d_X0_nearOfNeighbors_1 : decode cX0_nearOfNeighbors 1 = .ok (.lstore_n 2, 1) := by decide +kernel
theorem d_X0_nearOfNeighbors_2 : decode cX0_nearOfNeighbors 2 = .ok (.iconst 0, 1) := by decide +kernel
theorem d_X0_nearOfNeighbors_3 : decode cX0_nearOfNeighbors 3 = .ok (.istore 4, 2) := by decide +kernel
theorem d_X0_nearOfNeighbors_5 : decode cX0_nearOfNeighbors 5 = .ok (.iload 4, 2) := by decide +kernel
theorem d_X0_nearOfNeighbors_7 : decode cX0_nearOfNeighbors 7 = .ok (.iconst 4, 1) := by decide +kernel
theorem d_X0_nearOfNeighbors_8 : decode cX0_nearOfNeighbors 8 = .ok (.if_icmp .ge 43, 3) := by decide +kernel
theorem d_X0_nearOfNeighbors_11 : decode cX0_nearOfNeighbors 11 = .ok (.aload_n 0, 1) := by decide +kernel
theorem d_X0_nearOfNeighbors_12 : decode cX0_nearOfNeighbors 12 = .ok (.getfield 9, 3) := by decide +kernel
theorem d_X0_nearOfNeighbors_15 : decode cX0_nearOfNeighbors 15 = .ok (.iload_n 1, 1) := by decide +kernel
theorem d_X0_nearOfNeighbors_16 : decode cX0_nearOfNeighbors 16 = .ok (.iload 4, 2) := by decide +kernel
theorem d_X0_nearOfNeighbors_18 : decode cX0_nearOfNeighbors 18 = .ok (.invokevirtual 54, 3) := by decide +kernel
theorem d_X0_nearOfNeighbors_21 : decode cX0_nearOfNeighbors 21 = .ok (.istore 5, 2) := by decide +kernel
theorem d_X0_nearOfNeighbors_23 : decode cX0_nearOfNeighbors 23 = .ok (.aload_n 0, 1) := by decide +kernel
theorem d_X0_nearOfNeighbors_24 : decode cX0_nearOfNeighbors 24 = .ok (.getfield 9, 3) := by decide +kernel
theorem d_X0_nearOfNeighbors_27 : decode cX0_nearOfNeighbors 27 = .ok (.iload 5, 2) := by decide +kernel
theorem d_X0_nearOfNeighbors_29 : decode cX0_nearOfNeighbors 29 = .ok (.invokevirtual 58, 3) := by decide +kernel
theorem d_X0_nearOfNeighbors_32 : decode cX0_nearOfNeighbors 32 = .ok (.ifCond .eq 13, 3) := by decide +kernel
theorem d_X0_nearOfNeighbors_35 : decode cX0_nearOfNeighbors 35 = .ok (.lload_n 2, 1) := by decide +kernel
theorem d_X0_nearOfNeighbors_36 : decode cX0_nearOfNeighbors 36 = .ok (.aload_n 0, 1) := by decide +kernel
theorem d_X0_nearOfNeighbors_37 : decode cX0_nearOfNeighbors 37 = .ok (.getfield 27, 3) := by decide +kernel
theorem d_X0_nearOfNeighbors_40 : decode cX0_nearOfNeighbors 40 = .ok (.iload 5, 2) := by decide +kernel
theorem d_X0_nearOfNeighbors_42 : decode cX0_nearOfNeighbors 42 = .ok (.laload, 1) := by decide +kernel
theorem d_X0_nearOfNeighbors_43 : decode cX0_nearOfNeighbors 43 = .ok (.lor, 1) := by decide +kernel
theorem d_X0_nearOfNeighbors_44 : decode cX0_nearOfNeighbors 44 = .ok (.lstore_n 2, 1) := by decide +kernel
theorem d_X0_nearOfNeighbors_45 : decode cX0_nearOfNeighbors 45 = .ok (.iinc 4 1, 3) := by decide +kernel
theorem d_X0_nearOfNeighbors_48 : decode cX0_nearOfNeighbors 48 = .ok (.goto (-43), 3) := by decide +kernel
theorem d_X0_nearOfNeighbors_51 : decode cX0_nearOfNeighbors 51 = .ok (.lload_n 2, 1) := by decide +kernel
theorem d_X0_nearOfNeighbors_52 : decode cX0_nearOfNeighbors 52 = .ok (.lreturn, 1) := by decide +kernel
theorem d_X0_noteRound_0 : decode cX0_noteRound 0 = .ok (.iconst 0, 1) := by decide +kernel
theorem d_X0_noteRound_1 : decode cX0_noteRound 1 = .ok (.istore 4, 2) := by decide +kernel
theorem d_X0_noteRound_3 : decode cX0_noteRound 3 = .ok (.iload 4, 2) := by decide +kernel
theorem d_X0_noteRound_5 : decode cX0_noteRound 5 = .ok (.aload_n 0, 1) := by decide +kernel
theorem d_X0_noteRound_6 : decode cX0_noteRound 6 = .ok (.arraylength, 1) := by decide +kernel
theorem d_X0_noteRound_7 : decode cX0_noteRound 7 = .ok (.if_icmp .ge 25, 3) := by decide +kernel
theorem d_X0_noteRound_10 : decode cX0_noteRound 10 = .ok (.lload_n 1, 1) := by decide +kernel
theorem d_X0_noteRound_11 : decode cX0_noteRound 11 = .ok (.iload 4, 2) := by decide +kernel
theorem d_X0_noteRound_13 : decode cX0_noteRound 13 = .ok (.lushr, 1) := by decide +kernel
theorem d_X0_noteRound_14 : decode cX0_noteRound 14 = .ok (.lconst 1, 1) := by decide +kernel
theorem d_X0_noteRound_15 : decode cX0_noteRound 15 = .ok (.land, 1) := by decide +kernel
theorem d_X0_noteRound_16 : decode cX0_noteRound 16 = .ok (.lconst 0, 1) := by decide +kernel
theorem d_X0_noteRound_17 : decode cX0_noteRound 17 = .ok (.lcmp, 1) := by decide +kernel
theorem d_X0_noteRound_18 : decode cX0_noteRound 18 = .ok (.ifCond .eq 8, 3) := by decide +kernel
theorem d_X0_noteRound_21 : decode cX0_noteRound 21 = .ok (.aload_n 0, 1) := by decide +kernel
theorem d_X0_noteRound_22 : decode cX0_noteRound 22 = .ok (.iload 4, 2) := by decide +kernel
theorem d_X0_noteRound_24 : decode cX0_noteRound 24 = .ok (.iload_n 3, 1) := by decide +kernel
theorem d_X0_noteRound_25 : decode cX0_noteRound 25 = .ok (.iastore, 1) := by decide +kernel
theorem d_X0_noteRound_26 : decode cX0_noteRound 26 = .ok (.iinc 4 1, 3) := by decide +kernel
theorem d_X0_noteRound_29 : decode cX0_noteRound 29 = .ok (.goto (-26), 3) := by decide +kernel
theorem d_X0_noteRound_32 : decode cX0_noteRound 32 = .ok (.return_, 1) := by decide +kernel
theorem d_X1_init_0 : decode cX1_init 0 = .ok (.aload_n 0, 1) := by decide +kernel
theorem d_X1_init_1 : decode cX1_init 1 = .ok (.invokespecial 3, 3) := by decide +kernel
theorem d_X1_init_4 : decode cX1_init 4 = .ok (.aload_n 0, 1) := by decide +kernel
theorem d_X1_init_5 : decode cX1_init 5 = .ok (.bipush 8, 2) := by decide +kernel
theorem d_X1_init_7 : decode cX1_init 7 = .ok (.anewarray 9, 3) := by decide +kernel
theorem d_X1_init_10 : decode cX1_init 10 = .ok (.putfield 11, 3) := by decide +kernel
theorem d_X1_init_13 : decode cX1_init 13 = .ok (.iconst 0, 1) := by decide +kernel
theorem d_X1_init_14 : decode cX1_init 14 = .ok (.istore_n 1, 1) := by decide +kernel
theorem d_X1_init_15 : decode cX1_init 15 = .ok (.iload_n 1, 1) := by decide +kernel
theorem d_X1_init_16 : decode cX1_init 16 = .ok (.aload_n 0, 1) := by decide +kernel
theorem d_X1_init_17 : decode cX1_init 17 = .ok (.getfield 11, 3) := by decide +kernel
theorem d_X1_init_20 : decode cX1_init 20 = .ok (.arraylength, 1) := by decide +kernel
theorem d_X1_init_21 : decode cX1_init 21 = .ok (.if_icmp .ge 22, 3) := by decide +kernel
theorem d_X1_init_24 : decode cX1_init 24 = .ok (.aload_n 0, 1) := by decide +kernel
theorem d_X1_init_25 : decode cX1_init 25 = .ok (.getfield 11, 3) := by decide +kernel
theorem d_X1_init_28 : decode cX1_init 28 = .ok (.iload_n 1, 1) := by decide +kernel
theorem d_X1_init_29 : decode cX1_init 29 = .ok (.new 9, 3) := by decide +kernel
theorem d_X1_init_32 : decode cX1_init 32 = .ok (.dup, 1) := by decide +kernel
theorem d_X1_init_33 : decode cX1_init 33 = .ok (.invokespecial 17, 3) := by decide +kernel
theorem d_X1_init_36 : decode cX1_init 36 = .ok (.aastore, 1) := by decide +kernel
theorem d_X1_init_37 : decode cX1_init 37 = .ok (.iinc 1 1, 3) := by decide +kernel
theorem d_X1_init_40 : decode cX1_init 40 = .ok (.goto (-25), 3) := by decide +kernel
theorem d_X1_init_43 : decode cX1_init 43 = .ok (.return_, 1) := by decide +kernel
theorem d_X1_keep_0 : decode cX1_keep 0 = .ok (.aload_n 0, 1) := by decide +kernel
theorem d_X1_keep_1 : decode cX1_keep 1 = .ok (.getfield 18, 3) := by decide +kernel
theorem d_X1_keep_4 : decode cX1_keep 4 = .ok (.ifCond .lt 12, 3) := by decide +kernel
theorem d_X1_keep_7 : decode cX1_keep 7 = .ok (.aload_n 0, 1) := by decide +kernel
theorem d_X1_keep_8 : decode cX1_keep 8 = .ok (.getfield 18, 3) := by decide +kernel
theorem d_X1_keep_11 : decode cX1_keep 11 = .ok (.bipush 8, 2) := by decide +kernel
theorem d_X1_keep_13 : decode cX1_keep 13 = .ok (.if_icmp .lt 8, 3) := by decide +kernel
theorem d_X1_keep_16 : decode cX1_keep 16 = .ok (.aload_n 0, 1) := by decide +kernel
theorem d_X1_keep_17 : decode cX1_keep 17 = .ok (.iconst 0, 1) := by decide +kernel
theorem d_X1_keep_18 : decode cX1_keep 18 = .ok (.putfield 18, 3) := by decide +kernel
theorem d_X1_keep_21 : decode cX1_keep 21 = .ok (.aload_n 0, 1) := by decide +kernel
theorem d_X1_keep_22 : decode cX1_keep 22 = .ok (.getfield 11, 3) := by decide +kernel
theorem d_X1_keep_25 : decode cX1_keep 25 = .ok (.aload_n 0, 1) := by decide +kernel
theorem d_X1_keep_26 : decode cX1_keep 26 = .ok (.getfield 18, 3) := by decide +kernel
theorem d_X1_keep_29 : decode cX1_keep 29 = .ok (.aaload, 1) := by decide +kernel
theorem d_X1_keep_30 : decode cX1_keep 30 = .ok (.aload_n 1, 1) := by decide +kernel
theorem d_X1_keep_31 : decode cX1_keep 31 = .ok (.invokevirtual 22, 3) := by decide +kernel
theorem d_X1_keep_34 : decode cX1_keep 34 = .ok (.aload_n 0, 1) := by decide +kernel
theorem d_X1_keep_35 : decode cX1_keep 35 = .ok (.aload_n 0, 1) := by decide +kernel
theorem d_X1_keep_36 : decode cX1_keep 36 = .ok (.getfield 18, 3) := by decide +kernel
theorem d_X1_keep_39 : decode cX1_keep 39 = .ok (.iconst 1, 1) := by decide +kernel
theorem d_X1_keep_40 : decode cX1_keep 40 = .ok (.iadd, 1) := by decide +kernel
theorem d_X1_keep_41 : decode cX1_keep 41 = .ok (.bipush 8, 2) := by decide +kernel
theorem d_X1_keep_43 : decode cX1_keep 43 = .ok (.if_icmp .ge 12, 3) := by decide +kernel
theorem d_X1_keep_46 : decode cX1_keep 46 = .ok (.aload_n 0, 1) := by decide +kernel
theorem d_X1_keep_47 : decode cX1_keep 47 = .ok (.getfield 18, 3) := by decide +kernel
theorem d_X1_keep_50 : decode cX1_keep 50 = .ok (.iconst 1, 1) := by decide +kernel
theorem d_X1_keep_51 : decode cX1_keep 51 = .ok (.iadd, 1) := by decide +kernel
theorem d_X1_keep_52 : decode cX1_keep 52 = .ok (.goto 4, 3) := by decide +kernel
theorem d_X1_keep_55 : decode cX1_keep 55 = .ok (.iconst 0, 1) := by decide +kernel
theorem d_X1_keep_56 : decode cX1_keep 56 = .ok (.putfield 18, 3) := by decide +kernel
theorem d_X1_keep_59 : decode cX1_keep 59 = .ok (.aload_n 0, 1) := by decide +kernel
theorem d_X1_keep_60 : decode cX1_keep 60 = .ok (.bipush 8, 2) := by decide +kernel
theorem d_X1_keep_62 : decode cX1_keep 62 = .ok (.aload_n 0, 1) := by decide +kernel
theorem d_X1_keep_63 : decode cX1_keep 63 = .ok (.getfield 26, 3) := by decide +kernel
theorem d_X1_keep_66 : decode cX1_keep 66 = .ok (.iconst 1, 1) := by decide +kernel
theorem d_X1_keep_67 : decode cX1_keep 67 = .ok (.iadd, 1) := by decide +kernel
theorem d_X1_keep_68 : decode cX1_keep 68 = .ok (.invokestatic 29, 3) := by decide +kernel
theorem d_X1_keep_71 : decode cX1_keep 71 = .ok (.putfield 26, 3) := by decide +kernel
theorem d_X1_keep_74 : decode cX1_keep 74 = .ok (.return_, 1) := by decide +kernel
theorem d_X1_giveBack_0 : decode cX1_giveBack 0 = .ok (.aload_n 0, 1) := by decide +kernel
theorem d_X1_giveBack_1 : decode cX1_giveBack 1 = .ok (.getfield 26, 3) := by decide +kernel
theorem d_X1_giveBack_4 : decode cX1_giveBack 4 = .ok (.ifCond .gt 4, 3) := by decide +kernel
theorem d_X1_giveBack_7 : decode cX1_giveBack 7 = .ok (.return_, 1) := by decide +kernel
theorem d_X1_giveBack_8 : decode cX1_giveBack 8 = .ok (.aload_n 0, 1) := by decide +kernel
theorem d_X1_giveBack_9 : decode cX1_giveBack 9 = .ok (.aload_n 0, 1) := by decide +kernel
theorem d_X1_giveBack_10 : decode cX1_giveBack 10 = .ok (.getfield 18, 3) := by decide +kernel
theorem d_X1_giveBack_13 : decode cX1_giveBack 13 = .ok (.ifCond .le 21, 3) := by decide +kernel
theorem d_X1_giveBack_16 : decode cX1_giveBack 16 = .ok (.aload_n 0, 1) := by decide +kernel
theorem d_X1_giveBack_17 : decode cX1_giveBack 17 = .ok (.getfield 18, 3) := by decide +kernel
theorem d_X1_giveBack_20 : decode cX1_giveBack 20 = .ok (.bipush 8, 2) := by decide +kernel
theorem d_X1_giveBack_22 : decode cX1_giveBack 22 = .ok (.if_icmp .ge 12, 3) := by decide +kernel
theorem d_X1_giveBack_25 : decode cX1_giveBack 25 = .ok (.aload_n 0, 1) := by decide +kernel
theorem d_X1_giveBack_26 : decode cX1_giveBack 26 = .ok (.getfield 18, 3) := by decide +kernel
theorem d_X1_giveBack_29 : decode cX1_giveBack 29 = .ok (.iconst 1, 1) := by decide +kernel
theorem d_X1_giveBack_30 : decode cX1_giveBack 30 = .ok (.isub, 1) := by decide +kernel
theorem d_X1_giveBack_31 : decode cX1_giveBack 31 = .ok (.goto 5, 3) := by decide +kernel
theorem d_X1_giveBack_34 : decode cX1_giveBack 34 = .ok (.bipush 7, 2) := by decide +kernel
theorem d_X1_giveBack_36 : decode cX1_giveBack 36 = .ok (.putfield 18, 3) := by decide +kernel
theorem d_X1_giveBack_39 : decode cX1_giveBack 39 = .ok (.aload_n 1, 1) := by decide +kernel
theorem d_X1_giveBack_40 : decode cX1_giveBack 40 = .ok (.aload_n 0, 1) := by decide +kernel
theorem d_X1_giveBack_41 : decode cX1_giveBack 41 = .ok (.getfield 11, 3) := by decide +kernel
theorem d_X1_giveBack_44 : decode cX1_giveBack 44 = .ok (.aload_n 0, 1) := by decide +kernel
theorem d_X1_giveBack_45 : decode cX1_giveBack 45 = .ok (.getfield 18, 3) := by decide +kernel
theorem d_X1_giveBack_48 : decode cX1_giveBack 48 = .ok (.aaload, 1) := by decide +kernel
theorem d_X1_giveBack_49 : decode cX1_giveBack 49 = .ok (.invokevirtual 22, 3) := by decide +kernel
theorem d_X1_giveBack_52 : decode cX1_giveBack 52 = .ok (.aload_n 0, 1) := by decide +kernel
theorem d_X1_giveBack_53 : decode cX1_giveBack 53 = .ok (.dup, 1) := by decide +kernel
theorem d_X1_giveBack_54 : decode cX1_giveBack 54 = .ok (.getfield 26, 3) := by decide +kernel
theorem d_X1_giveBack_57 : decode cX1_giveBack 57 = .ok (.iconst 1, 1) := by decide +kernel
theorem d_X1_giveBack_58 : decode cX1_giveBack 58 = .ok (.isub, 1) := by decide +kernel
theorem d_X1_giveBack_59 : decode cX1_giveBack 59 = .ok (.putfield 26, 3) := by decide +kernel
theorem d_X1_giveBack_62 : decode cX1_giveBack 62 = .ok (.return_, 1) := by decide +kernel
theorem d_X2_init_0 : decode cX2_init 0 = .ok (.aload_n 0, 1) := by decide +kernel
theorem d_X2_init_1 : decode cX2_init 1 = .ok (.invokespecial 3, 3) := by decide +kernel
theorem d_X2_init_4 : decode cX2_init 4 = .ok (.aload_n 0, 1) := by decide +kernel
theorem d_X2_init_5 : decode cX2_init 5 = .ok (.bipush 60, 2) := by decide +kernel
theorem d_X2_init_7 : decode cX2_init 7 = .ok (.newarray .char, 2) := by decide +kernel
theorem d_X2_init_9 : decode cX2_init 9 = .ok (.putfield 9, 3) := by decide +kernel
theorem d_X2_init_12 : decode cX2_init 12 = .ok (.return_, 1) := by decide +kernel
theorem d_X2_isFull_0 : decode cX2_isFull 0 = .ok (.aload_n 0, 1) := by decide +kernel
theorem d_X2_isFull_1 : decode cX2_isFull 1 = .ok (.getfield 15, 3) := by decide +kernel
theorem d_X2_isFull_4 : decode cX2_isFull 4 = .ok (.aload_n 0, 1) := by decide +kernel
theorem d_X2_isFull_5 : decode cX2_isFull 5 = .ok (.getfield 9, 3) := by decide +kernel
theorem d_X2_isFull_8 : decode cX2_isFull 8 = .ok (.arraylength, 1) := by decide +kernel
theorem d_X2_isFull_9 : decode cX2_isFull 9 = .ok (.if_icmp .lt 7, 3) := by decide +kernel
theorem d_X2_isFull_12 : decode cX2_isFull 12 = .ok (.iconst 1, 1) := by decide +kernel
theorem d_X2_isFull_13 : decode cX2_isFull 13 = .ok (.goto 4, 3) := by decide +kernel
theorem d_X2_isFull_16 : decode cX2_isFull 16 = .ok (.iconst 0, 1) := by decide +kernel
theorem d_X2_isFull_17 : decode cX2_isFull 17 = .ok (.ireturn, 1) := by decide +kernel
theorem d_X2_take_0 : decode cX2_take 0 = .ok (.aload_n 0, 1) := by decide +kernel
theorem d_X2_take_1 : decode cX2_take 1 = .ok (.invokevirtual 19, 3) := by decide +kernel
theorem d_X2_take_4 : decode cX2_take 4 = .ok (.ifCond .ne 23, 3) := by decide +kernel
theorem d_X2_take_7 : decode cX2_take 7 = .ok (.aload_n 0, 1) := by decide +kernel
theorem d_X2_take_8 : decode cX2_take 8 = .ok (.getfield 9, 3) := by decide +kernel
theorem d_X2_take_11 : decode cX2_take 11 = .ok (.aload_n 0, 1) := by decide +kernel
theorem d_X2_take_12 : decode cX2_take 12 = .ok (.getfield 15, 3) := by decide +kernel
theorem d_X2_take_15 : decode cX2_take 15 = .ok (.iload_n 1, 1) := by decide +kernel
theorem d_X2_take_16 : decode cX2_take 16 = .ok (.castore, 1) := by decide +kernel
theorem d_X2_take_17 : decode cX2_take 17 = .ok (.aload_n 0, 1) := by decide +kernel
theorem d_X2_take_18 : decode cX2_take 18 = .ok (.dup, 1) := by decide +kernel
theorem d_X2_take_19 : decode cX2_take 19 = .ok (.getfield 15, 3) := by decide +kernel
theorem d_X2_take_22 : decode cX2_take 22 = .ok (.iconst 1, 1) := by decide +kernel
theorem d_X2_take_23 : decode cX2_take 23 = .ok (.iadd, 1) := by decide +kernel
theorem d_X2_take_24 : decode cX2_take 24 = .ok (.putfield 15, 3) := by decide +kernel
theorem d_X2_take_27 : decode cX2_take 27 = .ok (.return_, 1) := by decide +kernel
theorem d_X2_findFault_0 : decode cX2_findFault 0 = .ok (.aload_n 0, 1) := by decide +kernel
theorem d_X2_findFault_1 : decode cX2_findFault 1 = .ok (.iconst 0, 1) := by decide +kernel
theorem d_X2_findFault_2 : decode cX2_findFault 2 = .ok (.putfield 23, 3) := by decide +kernel
theorem d_X2_findFault_5 : decode cX2_findFault 5 = .ok (.aload_n 0, 1) := by decide +kernel
theorem d_X2_findFault_6 : decode cX2_findFault 6 = .ok (.iconst 0, 1) := by decide +kernel
theorem d_X2_findFault_7 : decode cX2_findFault 7 = .ok (.putfield 26, 3) := by decide +kernel
theorem d_X2_findFault_10 : decode cX2_findFault 10 = .ok (.iconst 0, 1) := by decide +kernel
theorem d_X2_findFault_11 : decode cX2_findFault 11 = .ok (.istore_n 1, 1) := by decide +kernel
theorem d_X2_findFault_12 : decode cX2_findFault 12 = .ok (.iconst 0, 1) := by decide +kernel
theorem d_X2_findFault_13 : decode cX2_findFault 13 = .ok (.istore_n 2, 1) := by decide +kernel
theorem d_X2_findFault_14 : decode cX2_findFault 14 = .ok (.iload_n 2, 1) := by decide +kernel
theorem d_X2_findFault_15 : decode cX2_findFault 15 = .ok (.aload_n 0, 1) := by decide +kernel
theorem d_X2_findFault_16 : decode cX2_findFault 16 = .ok (.getfield 15, 3) := by decide +kernel
theorem d_X2_findFault_19 : decode cX2_findFault 19 = .ok (.if_icmp .ge 84, 3) := by decide +kernel
theorem d_X2_findFault_22 : decode cX2_findFault 22 = .ok (.iload_n 2, 1) := by decide +kernel
theorem d_X2_findFault_23 : decode cX2_findFault 23 = .ok (.aload_n 0, 1) := by decide +kernel
theorem d_X2_findFault_24 : decode cX2_findFault 24 = .ok (.getfield 9, 3) := by decide +kernel
theorem d_X2_findFault_27 : decode cX2_findFault 27 = .ok (.arraylength, 1) := by decide +kernel
theorem d_X2_findFault_28 : decode cX2_findFault 28 = .ok (.if_icmp .ge 75, 3) := by decide +kernel
theorem d_X2_findFault_31 : decode cX2_findFault 31 = .ok (.aload_n 0, 1) := by decide +kernel
theorem d_X2_findFault_32 : decode cX2_findFault 32 = .ok (.getfield 9, 3) := by decide +kernel
theorem d_X2_findFault_35 : decode cX2_findFault 35 = .ok (.iload_n 2, 1) := by decide +kernel
theorem d_X2_findFault_36 : decode cX2_findFault 36 = .ok (.caload, 1) := by decide +kernel
theorem d_X2_findFault_37 : decode cX2_findFault 37 = .ok (.istore_n 3, 1) := by decide +kernel
theorem d_X2_findFault_38 : decode cX2_findFault 38 = .ok (.iload_n 3, 1) := by decide +kernel
theorem d_X2_findFault_39 : decode cX2_findFault 39 = .ok (.bipush 47, 2) := by decide +kernel
theorem d_X2_findFault_41 : decode cX2_findFault 41 = .ok (.if_icmp .ne 32, 3) := by decide +kernel
theorem d_X2_findFault_44 : decode cX2_findFault 44 = .ok (.aload_n 0, 1) := by decide +kernel
theorem d_X2_findFault_45 : decode cX2_findFault 45 = .ok (.iload_n 1, 1) := by decide +kernel
theorem d_X2_findFault_46 : decode cX2_findFault 46 = .ok (.invokevirtual 29, 3) := by decide +kernel
theorem d_X2_findFault_49 : decode cX2_findFault 49 = .ok (.ifCond .eq 24, 3) := by decide +kernel
theorem d_X2_findFault_52 : decode cX2_findFault 52 = .ok (.aload_n 0, 1) := by decide +kernel
theorem d_X2_findFault_53 : decode cX2_findFault 53 = .ok (.getfield 23, 3) := by decide +kernel
theorem d_X2_findFault_56 : decode cX2_findFault 56 = .ok (.iconst 1, 1) := by decide +kernel
theorem d_X2_findFault_57 : decode cX2_findFault 57 = .ok (.iadd, 1) := by decide +kernel
theorem d_X2_findFault_58 : decode cX2_findFault 58 = .ok (.bipush 6, 2) := by decide +kernel
theorem d_X2_findFault_60 : decode cX2_findFault 60 = .ok (.if_icmp .ge 13, 3) := by decide +kernel
theorem d_X2_findFault_63 : decode cX2_findFault 63 = .ok (.aload_n 0, 1) := by decide +kernel
theorem d_X2_findFault_64 : decode cX2_findFault 64 = .ok (.iload_n 1, 1) := by decide +kernel
theorem d_X2_findFault_65 : decode cX2_findFault 65 = .ok (.invokevirtual 33, 3) := by decide +kernel
theorem d_X2_findFault_68 : decode cX2_findFault 68 = .ok (.iconst 0, 1) := by decide +kernel
theorem d_X2_findFault_69 : decode cX2_findFault 69 = .ok (.istore_n 1, 1) := by decide +kernel
theorem d_X2_findFault_70 : decode cX2_findFault 70 = .ok (.goto 27, 3) := by decide +kernel
theorem d_X2_findFault_73 : decode cX2_findFault 73 = .ok (.iload_n 3, 1) := by decide +kernel
theorem d_X2_findFault_74 : decode cX2_findFault 74 = .ok (.invokestatic 37, 3) := by decide +kernel
theorem d_X2_findFault_77 : decode cX2_findFault 77 = .ok (.iconst (-1), 1) := by decide +kernel
theorem d_X2_findFault_78 : decode cX2_findFault 78 = .ok (.if_icmp .eq 17, 3) := by decide +kernel
theorem d_X2_findFault_81 : decode cX2_findFault 81 = .ok (.aload_n 0, 1) := by decide +kernel
theorem d_X2_findFault_82 : decode cX2_findFault 82 = .ok (.iload_n 1, 1) := by decide +kernel
theorem d_X2_findFault_83 : decode cX2_findFault 83 = .ok (.invokevirtual 41, 3) := by decide +kernel
theorem d_X2_findFault_86 : decode cX2_findFault 86 = .ok (.ifCond .eq 9, 3) := by decide +kernel
theorem d_X2_findFault_89 : decode cX2_findFault 89 = .ok (.iinc 1 1, 3) := by decide +kernel
theorem d_X2_findFault_92 : decode cX2_findFault 92 = .ok (.goto 5, 3) := by decide +kernel
theorem d_X2_findFault_95 : decode cX2_findFault 95 = .ok (.iload_n 2, 1) := by decide +kernel
theorem d_X2_findFault_96 : decode cX2_findFault 96 = .ok (.ireturn, 1) := by decide +kernel
theorem d_X2_findFault_97 : decode cX2_findFault 97 = .ok (.iinc 2 1, 3) := by decide +kernel
theorem d_X2_findFault_100 : decode cX2_findFault 100 = .ok (.goto (-86), 3) := by decide +kernel
theorem d_X2_findFault_103 : decode cX2_findFault 103 = .ok (.aload_n 0, 1) := by decide +kernel
theorem d_X2_findFault_104 : decode cX2_findFault 104 = .ok (.iload_n 1, 1) := by decide +kernel
theorem d_X2_findFault_105 : decode cX2_findFault 105 = .ok (.invokevirtual 29, 3) := by decide +kernel
theorem d_X2_findFault_108 : decode cX2_findFault 108 = .ok (.ifCond .ne 8, 3) := by decide +kernel
theorem d_X2_findFault_111 : decode cX2_findFault 111 = .ok (.aload_n 0, 1) := by decide +kernel
theorem d_X2_findFault_112 : decode cX2_findFault 112 = .ok (.getfield 15, 3) := by decide +kernel
theorem d_X2_findFault_115 : decode cX2_findFault 115 = .ok (.ireturn, 1) := by decide +kernel
theorem d_X2_findFault_116 : decode cX2_findFault 116 = .ok (.aload_n 0, 1) := by decide +kernel
theorem d_X2_findFault_117 : decode cX2_findFault 117 = .ok (.iload_n 1, 1) := by decide +kernel
theorem d_X2_findFault_118 : decode cX2_findFault 118 = .ok (.invokevirtual 33, 3) := by decide +kernel
theorem d_X2_findFault_121 : decode cX2_findFault 121 = .ok (.iconst (-1), 1) := by decide +kernel
theorem d_X2_findFault_122 : decode cX2_findFault 122 = .ok (.ireturn, 1) := by decide +kernel
theorem d_X2_canEndRow_0 : decode cX2_canEndRow 0 = .ok (.aload_n 0, 1) := by decide +kernel
theorem d_X2_canEndRow_1 : decode cX2_canEndRow 1 = .ok (.getfield 23, 3) := by decide +kernel
theorem d_X2_canEndRow_4 : decode cX2_canEndRow 4 = .ok (.ifCond .ne 16, 3) := by decide +kernel
theorem d_X2_canEndRow_7 : decode cX2_canEndRow 7 = .ok (.iload_n 1, 1) := by decide +kernel
theorem d_X2_canEndRow_8 : decode cX2_canEndRow 8 = .ok (.iconst 2, 1) := by decide +kernel
theorem d_X2_canEndRow_9 : decode cX2_canEndRow 9 = .ok (.if_icmp .lt 7, 3) := by decide +kernel
theorem d_X2_canEndRow_12 : decode cX2_canEndRow 12 = .ok (.iconst 1, 1) := by decide +kernel
theorem d_X2_canEndRow_13 : decode cX2_canEndRow 13 = .ok (.goto 20, 3) := by decide +kernel
theorem d_X2_canEndRow_16 : decode cX2_canEndRow 16 = .ok (.iconst 0, 1) := by decide +kernel
theorem d_X2_canEndRow_17 : decode cX2_canEndRow 17 = .ok (.goto 16, 3) := by decide +kernel
theorem d_X2_canEndRow_20 : decode cX2_canEndRow 20 = .ok (.iload_n 1, 1) := by decide +kernel
theorem d_X2_canEndRow_21 : decode cX2_canEndRow 21 = .ok (.aload_n 0, 1) := by decide +kernel
theorem d_X2_canEndRow_22 : decode cX2_canEndRow 22 = .ok (.getfield 26, 3) := by decide +kernel
theorem d_X2_canEndRow_25 : decode cX2_canEndRow 25 = .ok (.if_icmp .ne 7, 3) := by decide +kernel
theorem d_X2_canEndRow_28 : decode cX2_canEndRow 28 = .ok (.iconst 1, 1) := by decide +kernel
theorem d_X2_canEndRow_29 : decode cX2_canEndRow 29 = .ok (.goto 4, 3) := by decide +kernel
theorem d_X2_canEndRow_32 : decode cX2_canEndRow 32 = .ok (.iconst 0, 1) := by decide +kernel
theorem d_X2_canEndRow_33 : decode cX2_canEndRow 33 = .ok (.ireturn, 1) := by decide +kernel
theorem d_X2_canGrowRow_0 : decode cX2_canGrowRow 0 = .ok (.iload_n 1, 1) := by decide +kernel
theorem d_X2_canGrowRow_1 : decode cX2_canGrowRow 1 = .ok (.aload_n 0, 1) := by decide +kernel
theorem d_X2_canGrowRow_2 : decode cX2_canGrowRow 2 = .ok (.getfield 23, 3) := by decide +kernel
theorem d_X2_canGrowRow_5 : decode cX2_canGrowRow 5 = .ok (.ifCond .ne 8, 3) := by decide +kernel
theorem d_X2_canGrowRow_8 : decode cX2_canGrowRow 8 = .ok (.bipush 8, 2) := by decide +kernel
theorem d_X2_canGrowRow_10 : decode cX2_canGrowRow 10 = .ok (.goto 7, 3) := by decide +kernel
theorem d_X2_canGrowRow_13 : decode cX2_canGrowRow 13 = .ok (.aload_n 0, 1) := by decide +kernel
theorem d_X2_canGrowRow_14 : decode cX2_canGrowRow 14 = .ok (.getfield 26, 3) := by decide +kernel
theorem d_X2_canGrowRow_17 : decode cX2_canGrowRow 17 = .ok (.if_icmp .ge 7, 3) := by decide +kernel
theorem d_X2_canGrowRow_20 : decode cX2_canGrowRow 20 = .ok (.iconst 1, 1) := by decide +kernel
theorem d_X2_canGrowRow_21 : decode cX2_canGrowRow 21 = .ok (.goto 4, 3) := by decide +kernel
theorem d_X2_canGrowRow_24 : decode cX2_canGrowRow 24 = .ok (.iconst 0, 1) := by decide +kernel
theorem d_X2_canGrowRow_25 : decode cX2_canGrowRow 25 = .ok (.ireturn, 1) := by decide +kernel
theorem d_X2_endRow_0 : decode cX2_endRow 0 = .ok (.aload_n 0, 1) := by decide +kernel
theorem d_X2_endRow_1 : decode cX2_endRow 1 = .ok (.iload_n 1, 1) := by decide +kernel
theorem d_X2_endRow_2 : decode cX2_endRow 2 = .ok (.putfield 26, 3) := by decide +kernel
theorem d_X2_endRow_5 : decode cX2_endRow 5 = .ok (.aload_n 0, 1) := by decide +kernel
theorem d_X2_endRow_6 : decode cX2_endRow 6 = .ok (.dup, 1) := by decide +kernel
theorem d_X2_endRow_7 : decode cX2_endRow 7 = .ok (.getfield 23, 3) := by decide +kernel
theorem d_X2_endRow_10 : decode cX2_endRow 10 = .ok (.iconst 1, 1) := by decide +kernel
theorem d_X2_endRow_11 : decode cX2_endRow 11 = .ok (.iadd, 1) := by decide +kernel
theorem d_X2_endRow_12 : decode cX2_endRow 12 = .ok (.putfield 23, 3) := by decide +kernel
theorem d_X2_endRow_15 : decode cX2_endRow 15 = .ok (.return_, 1) := by decide +kernel
theorem d_X2_kindOf_0 : decode cX2_kindOf 0 = .ok (.iconst 0, 1) := by decide +kernel
theorem d_X2_kindOf_1 : decode cX2_kindOf 1 = .ok (.istore_n 1, 1) := by decide +kernel
theorem d_X2_kindOf_2 : decode cX2_kindOf 2 = .ok (.iload_n 1, 1) := by decide +kernel
theorem d_X2_kindOf_3 : decode cX2_kindOf 3 = .ok (.getstatic 44, 3) := by decide +kernel
theorem d_X2_kindOf_6 : decode cX2_kindOf 6 = .ok (.arraylength, 1) := by decide +kernel
theorem d_X2_kindOf_7 : decode cX2_kindOf 7 = .ok (.if_icmp .ge 20, 3) := by decide +kernel
theorem d_X2_kindOf_10 : decode cX2_kindOf 10 = .ok (.getstatic 44, 3) := by decide +kernel
theorem d_X2_kindOf_13 : decode cX2_kindOf 13 = .ok (.iload_n 1, 1) := by decide +kernel
theorem d_X2_kindOf_14 : decode cX2_kindOf 14 = .ok (.caload, 1) := by decide +kernel
theorem d_X2_kindOf_15 : decode cX2_kindOf 15 = .ok (.iload_n 0, 1) := by decide +kernel
theorem d_X2_kindOf_16 : decode cX2_kindOf 16 = .ok (.if_icmp .ne 5, 3) := by decide +kernel
theorem d_X2_kindOf_19 : decode cX2_kindOf 19 = .ok (.iload_n 1, 1) := by decide +kernel
theorem d_X2_kindOf_20 : decode cX2_kindOf 20 = .ok (.ireturn, 1) := by decide +kernel
theorem d_X2_kindOf_21 : decode cX2_kindOf 21 = .ok (.iinc 1 1, 3) := by decide +kernel
theorem d_X2_kindOf_24 : decode cX2_kindOf 24 = .ok (.goto (-22), 3) := by decide +kernel
theorem d_X2_kindOf_27 : decode cX2_kindOf 27 = .ok (.iconst (-1), 1) := by decide +kernel
theorem d_X2_kindOf_28 : decode cX2_kindOf 28 = .ok (.ireturn, 1) := by decide +kernel
theorem d_X3_init_0 : decode cX3_init 0 = .ok (.aload_n 0, 1) := by decide +kernel
theorem d_X3_init_1 : decode cX3_init 1 = .ok (.invokespecial 3, 3) := by decide +kernel
theorem d_X3_init_4 : decode cX3_init 4 = .ok (.aload_n 0, 1) := by decide +kernel
theorem d_X3_init_5 : decode cX3_init 5 = .ok (.iconst 3, 1) := by decide +kernel
theorem d_X3_init_6 : decode cX3_init 6 = .ok (.newarray .int, 2) := by decide +kernel
theorem d_X3_init_8 : decode cX3_init 8 = .ok (.putfield 9, 3) := by decide +kernel
theorem d_X3_init_11 : decode cX3_init 11 = .ok (.aload_n 0, 1) := by decide +kernel
theorem d_X3_init_12 : decode cX3_init 12 = .ok (.iconst (-1), 1) := by decide +kernel
theorem d_X3_init_13 : decode cX3_init 13 = .ok (.putfield 15, 3) := by decide +kernel
theorem d_X3_init_16 : decode cX3_init 16 = .ok (.return_, 1) := by decide +kernel
theorem d_X3_begin_0 : decode cX3_begin 0 = .ok (.aload_n 0, 1) := by decide +kernel
theorem d_X3_begin_1 : decode cX3_begin 1 = .ok (.iload_n 1, 1) := by decide +kernel
theorem d_X3_begin_2 : decode cX3_begin 2 = .ok (.putfield 19, 3) := by decide +kernel
theorem d_X3_begin_5 : decode cX3_begin 5 = .ok (.aload_n 0, 1) := by decide +kernel
theorem d_X3_begin_6 : decode cX3_begin 6 = .ok (.getfield 9, 3) := by decide +kernel
theorem d_X3_begin_9 : decode cX3_begin 9 = .ok (.iconst 0, 1) := by decide +kernel
theorem d_X3_begin_10 : decode cX3_begin 10 = .ok (.iload_n 2, 1) := by decide +kernel
theorem d_X3_begin_11 : decode cX3_begin 11 = .ok (.iastore, 1) := by decide +kernel
theorem d_X3_begin_12 : decode cX3_begin 12 = .ok (.aload_n 0, 1) := by decide +kernel
theorem d_X3_begin_13 : decode cX3_begin 13 = .ok (.getfield 9, 3) := by decide +kernel
theorem d_X3_begin_16 : decode cX3_begin 16 = .ok (.iconst 1, 1) := by decide +kernel
theorem d_X3_begin_17 : decode cX3_begin 17 = .ok (.iload_n 3, 1) := by decide +kernel
theorem d_X3_begin_18 : decode cX3_begin 18 = .ok (.iastore, 1) := by decide +kernel
theorem d_X3_begin_19 : decode cX3_begin 19 = .ok (.aload_n 0, 1) := by decide +kernel
theorem d_X3_begin_20 : decode cX3_begin 20 = .ok (.getfield 9, 3) := by decide +kernel
theorem d_X3_begin_23 : decode cX3_begin 23 = .ok (.iconst 2, 1) := by decide +kernel
theorem d_X3_begin_24 : decode cX3_begin 24 = .ok (.iload 4, 2) := by decide +kernel
theorem d_X3_begin_26 : decode cX3_begin 26 = .ok (.iastore, 1) := by decide +kernel
theorem d_X3_begin_27 : decode cX3_begin 27 = .ok (.aload_n 0, 1) := by decide +kernel
theorem d_X3_begin_28 : decode cX3_begin 28 = .ok (.iload_n 3, 1) := by decide +kernel
theorem d_X3_begin_29 : decode cX3_begin 29 = .ok (.iconst (-1), 1) := by decide +kernel
theorem d_X3_begin_30 : decode cX3_begin 30 = .ok (.if_icmp .ne 7, 3) := by decide +kernel
theorem d_X3_begin_33 : decode cX3_begin 33 = .ok (.iconst 1, 1) := by decide +kernel
theorem d_X3_begin_34 : decode cX3_begin 34 = .ok (.goto 14, 3) := by decide +kernel
theorem d_X3_begin_37 : decode cX3_begin 37 = .ok (.iload 4, 2) := by decide +kernel
theorem d_X3_begin_39 : decode cX3_begin 39 = .ok (.iconst (-1), 1) := by decide +kernel
theorem d_X3_begin_40 : decode cX3_begin 40 = .ok (.if_icmp .ne 7, 3) := by decide +kernel
theorem d_X3_begin_43 : decode cX3_begin 43 = .ok (.iconst 2, 1) := by decide +kernel
theorem d_X3_begin_44 : decode cX3_begin 44 = .ok (.goto 4, 3) := by decide +kernel
theorem d_X3_begin_47 : decode cX3_begin 47 = .ok (.iconst 3, 1) := by decide +kernel
theorem d_X3_begin_48 : decode cX3_begin 48 = .ok (.putfield 22, 3) := by decide +kernel
theorem d_X3_begin_51 : decode cX3_begin 51 = .ok (.aload_n 0, 1) := by decide +kernel
theorem d_X3_begin_52 : decode cX3_begin 52 = .ok (.iconst 0, 1) := by decide +kernel
theorem d_X3_begin_53 : decode cX3_begin 53 = .ok (.putfield 25, 3) := by decide +kernel
theorem d_X3_begin_56 : decode cX3_begin 56 = .ok (.aload_n 0, 1) := by decide +kernel
theorem d_X3_begin_57 : decode cX3_begin 57 = .ok (.iconst (-1), 1) := by decide +kernel
theorem d_X3_begin_58 : decode cX3_begin 58 = .ok (.putfield 15, 3) := by decide +kernel
theorem d_X3_begin_61 : decode cX3_begin 61 = .ok (.return_, 1) := by decide +kernel
theorem d_X3_copyFrom_0 : decode cX3_copyFrom 0 = .ok (.aload_n 0, 1) := by decide +kernel
theorem d_X3_copyFrom_1 : decode cX3_copyFrom 1 = .ok (.aload_n 1, 1) := by decide +kernel
theorem d_X3_copyFrom_2 : decode cX3_copyFrom 2 = .ok (.getfield 19, 3) := by decide +kernel
theorem d_X3_copyFrom_5 : decode cX3_copyFrom 5 = .ok (.putfield 19, 3) := by decide +kernel
theorem d_X3_copyFrom_8 : decode cX3_copyFrom 8 = .ok (.aload_n 0, 1) := by decide +kernel
theorem d_X3_copyFrom_9 : decode cX3_copyFrom 9 = .ok (.aload_n 1, 1) := by decide +kernel
theorem d_X3_copyFrom_10 : decode cX3_copyFrom 10 = .ok (.getfield 22, 3) := by decide +kernel
theorem d_X3_copyFrom_13 : decode cX3_copyFrom 13 = .ok (.putfield 22, 3) := by decide +kernel
theorem d_X3_copyFrom_16 : decode cX3_copyFrom 16 = .ok (.aload_n 0, 1) := by decide +kernel
theorem d_X3_copyFrom_17 : decode cX3_copyFrom 17 = .ok (.aload_n 1, 1) := by decide +kernel
theorem d_X3_copyFrom_18 : decode cX3_copyFrom 18 = .ok (.getfield 25, 3) := by decide +kernel
theorem d_X3_copyFrom_21 : decode cX3_copyFrom 21 = .ok (.putfield 25, 3) := by decide +kernel
theorem d_X3_copyFrom_24 : decode cX3_copyFrom 24 = .ok (.aload_n 0, 1) := by decide +kernel
theorem d_X3_copyFrom_25 : decode cX3_copyFrom 25 = .ok (.aload_n 1, 1) := by decide +kernel
theorem d_X3_copyFrom_26 : decode cX3_copyFrom 26 = .ok (.getfield 15, 3) := by decide +kernel
theorem d_X3_copyFrom_29 : decode cX3_copyFrom 29 = .ok (.putfield 15, 3) := by decide +kernel
theorem d_X3_copyFrom_32 : decode cX3_copyFrom 32 = .ok (.aload_n 1, 1) := by decide +kernel
theorem d_X3_copyFrom_33 : decode cX3_copyFrom 33 = .ok (.getfield 9, 3) := by decide +kernel
theorem d_X3_copyFrom_36 : decode cX3_copyFrom 36 = .ok (.iconst 0, 1) := by decide +kernel
theorem d_X3_copyFrom_37 : decode cX3_copyFrom 37 = .ok (.aload_n 0, 1) := by decide +kernel
theorem d_X3_copyFrom_38 : decode cX3_copyFrom 38 = .ok (.getfield 9, 3) := by decide +kernel
theorem d_X3_copyFrom_41 : decode cX3_copyFrom 41 = .ok (.iconst 0, 1) := by decide +kernel
theorem d_X3_copyFrom_42 : decode cX3_copyFrom 42 = .ok (.iconst 3, 1) := by decide +kernel
theorem d_X3_copyFrom_43 : decode cX3_copyFrom 43 = .ok (.invokestatic 28, 3) := by decide +kernel
theorem d_X3_copyFrom_46 : decode cX3_copyFrom 46 = .ok (.return_, 1) := by decide +kernel
theorem d_X3_linesLeft_0 : decode cX3_linesLeft 0 = .ok (.aload_n 0, 1) := by decide +kernel
theorem d_X3_linesLeft_1 : decode cX3_linesLeft 1 = .ok (.getfield 22, 3) := by decide +kernel
theorem d_X3_linesLeft_4 : decode cX3_linesLeft 4 = .ok (.aload_n 0, 1) := by decide +kernel
theorem d_X3_linesLeft_5 : decode cX3_linesLeft 5 = .ok (.getfield 25, 3) := by decide +kernel
theorem d_X3_linesLeft_8 : decode cX3_linesLeft 8 = .ok (.isub, 1) := by decide +kernel
theorem d_X3_linesLeft_9 : decode cX3_linesLeft 9 = .ok (.ireturn, 1) := by decide +kernel
theorem d_X3_isNextLine_0 : decode cX3_isNextLine 0 = .ok (.aload_n 0, 1) := by decide +kernel
theorem d_X3_isNextLine_1 : decode cX3_isNextLine 1 = .ok (.getfield 25, 3) := by decide +kernel
theorem d_X3_isNextLine_4 : decode cX3_isNextLine 4 = .ok (.ifCond .lt 43, 3) := by decide +kernel
theorem d_X3_isNextLine_7 : decode cX3_isNextLine 7 = .ok (.aload_n 0, 1) := by decide +kernel
theorem d_X3_isNextLine_8 : decode cX3_isNextLine 8 = .ok (.getfield 25, 3) := by decide +kernel
theorem d_X3_isNextLine_11 : decode cX3_isNextLine 11 = .ok (.aload_n 0, 1) := by decide +kernel
theorem d_X3_isNextLine_12 : decode cX3_isNextLine 12 = .ok (.getfield 22, 3) := by decide +kernel
theorem d_X3_isNextLine_15 : decode cX3_isNextLine 15 = .ok (.if_icmp .ge 32, 3) := by decide +kernel
theorem d_X3_isNextLine_18 : decode cX3_isNextLine 18 = .ok (.aload_n 0, 1) := by decide +kernel
theorem d_X3_isNextLine_19 : decode cX3_isNextLine 19 = .ok (.getfield 25, 3) := by decide +kernel
theorem d_X3_isNextLine_22 : decode cX3_isNextLine 22 = .ok (.aload_n 0, 1) := by decide +kernel
theorem d_X3_isNextLine_23 : decode cX3_isNextLine 23 = .ok (.getfield 9, 3) := by decide +kernel
theorem d_X3_isNextLine_26 : decode cX3_isNextLine 26 = .ok (.arraylength, 1) := by decide +kernel
theorem d_X3_isNextLine_27 : decode cX3_isNextLine 27 = .ok (.if_icmp .ge 20, 3) := by decide +kernel
theorem d_X3_isNextLine_30 : decode cX3_isNextLine 30 = .ok (.aload_n 0, 1) := by decide +kernel
theorem d_X3_isNextLine_31 : decode cX3_isNextLine 31 = .ok (.getfield 9, 3) := by decide +kernel
theorem d_X3_isNextLine_34 : decode cX3_isNextLine 34 = .ok (.aload_n 0, 1) := by decide +kernel
theorem d_X3_isNextLine_35 : decode cX3_isNextLine 35 = .ok (.getfield 25, 3) := by decide +kernel
theorem d_X3_isNextLine_38 : decode cX3_isNextLine 38 = .ok (.iaload, 1) := by decide +kernel
theorem d_X3_isNextLine_39 : decode cX3_isNextLine 39 = .ok (.iload_n 1, 1) := by decide +kernel
theorem d_X3_isNextLine_40 : decode cX3_isNextLine 40 = .ok (.if_icmp .ne 7, 3) := by decide +kernel
theorem d_X3_isNextLine_43 : decode cX3_isNextLine 43 = .ok (.iconst 1, 1) := by decide +kernel
theorem d_X3_isNextLine_44 : decode cX3_isNextLine 44 = .ok (.goto 4, 3) := by decide +kernel
theorem d_X3_isNextLine_47 : decode cX3_isNextLine 47 = .ok (.iconst 0, 1) := by decide +kernel
theorem d_X3_isNextLine_48 : decode cX3_isNextLine 48 = .ok (.ireturn, 1) := by decide +kernel
theorem d_X4_init_0 : decode cX4_init 0 = .ok (.aload_n 0, 1) := by decide +kernel
theorem d_X4_init_1 : decode cX4_init 1 = .ok (.invokespecial 3, 3) := by decide +kernel
theorem d_X4_init_4 : decode cX4_init 4 = .ok (.aload_n 0, 1) := by decide +kernel
theorem d_X4_init_5 : decode cX4_init 5 = .ok (.aload_n 1, 1) := by decide +kernel
theorem d_X4_init_6 : decode cX4_init 6 = .ok (.putfield 9, 3) := by decide +kernel
theorem d_X4_init_9 : decode cX4_init 9 = .ok (.aload_n 0, 1) := by decide +kernel
theorem d_X4_init_10 : decode cX4_init 10 = .ok (.sipush 1488, 3) := by decide +kernel
theorem d_X4_init_13 : decode cX4_init 13 = .ok (.newarray .int, 2) := by decide +kernel
theorem d_X4_init_15 : decode cX4_init 15 = .ok (.putfield 15, 3) := by decide +kernel
theorem d_X4_init_18 : decode cX4_init 18 = .ok (.aload_n 0, 1) := by decide +kernel
theorem d_X4_init_19 : decode cX4_init 19 = .ok (.sipush 1488, 3) := by decide +kernel
theorem d_X4_init_22 : decode cX4_init 22 = .ok (.newarray .int, 2) := by decide +kernel
theorem d_X4_init_24 : decode cX4_init 24 = .ok (.putfield 19, 3) := by decide +kernel
theorem d_X4_init_27 : decode cX4_init 27 = .ok (.aload_n 0, 1) := by decide +kernel
theorem d_X4_init_28 : decode cX4_init 28 = .ok (.bipush 31, 2) := by decide +kernel
theorem d_X4_init_30 : decode cX4_init 30 = .ok (.newarray .long, 2) := by decide +kernel
theorem d_X4_init_32 : decode cX4_init 32 = .ok (.putfield 22, 3) := by decide +kernel
theorem d_X4_init_35 : decode cX4_init 35 = .ok (.aload_n 0, 1) := by decide +kernel
theorem d_X4_init_36 : decode cX4_init 36 = .ok (.bipush 30, 2) := by decide +kernel
theorem d_X4_init_38 : decode cX4_init 38 = .ok (.newarray .int, 2) := by decide +kernel
theorem d_X4_init_40 : decode cX4_init 40 = .ok (.putfield 26, 3) := by decide +kernel
theorem d_X4_init_43 : decode cX4_init 43 = .ok (.return_, 1) := by decide +kernel
theorem d_X4_findFirst_0 : decode cX4_findFirst 0 = .ok (.aload_n 0, 1) := by decide +kernel
theorem d_X4_findFirst_1 : decode cX4_findFirst 1 = .ok (.iload_n 1, 1) := by decide +kernel
theorem d_X4_findFirst_2 : decode cX4_findFirst 2 = .ok (.iload_n 2, 1) := by decide +kernel
theorem d_X4_findFirst_3 : decode cX4_findFirst 3 = .ok (.invokevirtual 29, 3) := by decide +kernel
theorem d_X4_findFirst_6 : decode cX4_findFirst 6 = .ok (.ifCond .ne 5, 3) := by decide +kernel
theorem d_X4_findFirst_9 : decode cX4_findFirst 9 = .ok (.iconst (-1), 1) := by decide +kernel
theorem d_X4_findFirst_10 : decode cX4_findFirst 10 = .ok (.ireturn, 1) := by decide +kernel
theorem d_X4_findFirst_11 : decode cX4_findFirst 11 = .ok (.aload_n 0, 1) := by decide +kernel
theorem d_X4_findFirst_12 : decode cX4_findFirst 12 = .ok (.getfield 19, 3) := by decide +kernel
theorem d_X4_findFirst_15 : decode cX4_findFirst 15 = .ok (.iconst (-1), 1) := by decide +kernel
theorem d_X4_findFirst_16 : decode cX4_findFirst 16 = .ok (.invokestatic 33, 3) := by decide +kernel
theorem d_X4_findFirst_19 : decode cX4_findFirst 19 = .ok (.aload_n 0, 1) := by decide +kernel
theorem d_X4_findFirst_20 : decode cX4_findFirst 20 = .ok (.invokevirtual 39, 3) := by decide +kernel
theorem d_X4_findFirst_23 : decode cX4_findFirst 23 = .ok (.istore_n 3, 1) := by decide +kernel
theorem d_X4_findFirst_24 : decode cX4_findFirst 24 = .ok (.aload_n 0, 1) := by decide +kernel
theorem d_X4_findFirst_25 : decode cX4_findFirst 25 = .ok (.getfield 15, 3) := by decide +kernel
theorem d_X4_findFirst_28 : decode cX4_findFirst 28 = .ok (.iconst 0, 1) := by decide +kernel
theorem d_X4_findFirst_29 : decode cX4_findFirst 29 = .ok (.aload_n 0, 1) := by decide +kernel
theorem d_X4_findFirst_30 : decode cX4_findFirst 30 = .ok (.getfield 9, 3) := by decide +kernel
theorem d_X4_findFirst_33 : decode cX4_findFirst 33 = .ok (.getfield 43, 3) := by decide +kernel
theorem d_X4_findFirst_36 : decode cX4_findFirst 36 = .ok (.aload_n 0, 1) := by decide +kernel
theorem d_X4_findFirst_37 : decode cX4_findFirst 37 = .ok (.getfield 49, 3) := by decide +kernel
theorem d_X4_findFirst_40 : decode cX4_findFirst 40 = .ok (.aaload, 1) := by decide +kernel
theorem d_X4_findFirst_41 : decode cX4_findFirst 41 = .ok (.getfield 53, 3) := by decide +kernel
theorem d_X4_findFirst_44 : decode cX4_findFirst 44 = .ok (.iastore, 1) := by decide +kernel
theorem d_X4_findFirst_45 : decode cX4_findFirst 45 = .ok (.iconst 1, 1) := by decide +kernel
theorem d_X4_findFirst_46 : decode cX4_findFirst 46 = .ok (.istore 4, 2) := by decide +kernel
theorem d_X4_findFirst_48 : decode cX4_findFirst 48 = .ok (.iconst 0, 1) := by decide +kernel
theorem d_X4_findFirst_49 : decode cX4_findFirst 49 = .ok (.istore 5, 2) := by decide +kernel
theorem d_X4_findFirst_51 : decode cX4_findFirst 51 = .ok (.iload 5, 2) := by decide +kernel
theorem d_X4_findFirst_53 : decode cX4_findFirst 53 = .ok (.iload 4, 2) := by decide +kernel
theorem d_X4_findFirst_55 : decode cX4_findFirst 55 = .ok (.if_icmp .ge 172, 3) := by decide +kernel
theorem d_X4_findFirst_58 : decode cX4_findFirst 58 = .ok (.iload 5, 2) := by decide +kernel
theorem d_X4_findFirst_60 : decode cX4_findFirst 60 = .ok (.sipush 1488, 3) := by decide +kernel
theorem d_X4_findFirst_63 : decode cX4_findFirst 63 = .ok (.if_icmp .ge 164, 3) := by decide +kernel
theorem d_X4_findFirst_66 : decode cX4_findFirst 66 = .ok (.aload_n 0, 1) := by decide +kernel
theorem d_X4_findFirst_67 : decode cX4_findFirst 67 = .ok (.getfield 15, 3) := by decide +kernel
theorem d_X4_findFirst_70 : decode cX4_findFirst 70 = .ok (.iload 5, 2) := by decide +kernel
theorem d_X4_findFirst_72 : decode cX4_findFirst 72 = .ok (.iaload, 1) := by decide +kernel
theorem d_X4_findFirst_73 : decode cX4_findFirst 73 = .ok (.istore 6, 2) := by decide +kernel
theorem d_X4_findFirst_75 : decode cX4_findFirst 75 = .ok (.iload 6, 2) := by decide +kernel
theorem d_X4_findFirst_77 : decode cX4_findFirst 77 = .ok (.bipush 48, 2) := by decide +kernel
theorem d_X4_findFirst_79 : decode cX4_findFirst 79 = .ok (.irem, 1) := by decide +kernel
theorem d_X4_findFirst_80 : decode cX4_findFirst 80 = .ok (.istore 7, 2) := by decide +kernel
theorem d_X4_findFirst_82 : decode cX4_findFirst 82 = .ok (.iload 6, 2) := by decide +kernel
theorem d_X4_findFirst_84 : decode cX4_findFirst 84 = .ok (.bipush 48, 2) := by decide +kernel
theorem d_X4_findFirst_86 : decode cX4_findFirst 86 = .ok (.idiv, 1) := by decide +kernel
theorem d_X4_findFirst_87 : decode cX4_findFirst 87 = .ok (.iconst 1, 1) := by decide +kernel
theorem d_X4_findFirst_88 : decode cX4_findFirst 88 = .ok (.iadd, 1) := by decide +kernel
theorem d_X4_findFirst_89 : decode cX4_findFirst 89 = .ok (.istore 8, 2) := by decide +kernel
theorem d_X4_findFirst_91 : decode cX4_findFirst 91 = .ok (.iload 8, 2) := by decide +kernel
theorem d_X4_findFirst_93 : decode cX4_findFirst 93 = .ok (.iload_n 3, 1) := by decide +kernel
theorem d_X4_findFirst_94 : decode cX4_findFirst 94 = .ok (.if_icmp .le 5, 3) := by decide +kernel
theorem d_X4_findFirst_97 : decode cX4_findFirst 97 = .ok (.iconst (-1), 1) := by decide +kernel
theorem d_X4_findFirst_98 : decode cX4_findFirst 98 = .ok (.ireturn, 1) := by decide +kernel
theorem d_X4_findFirst_99 : decode cX4_findFirst 99 = .ok (.iconst 0, 1) := by decide +kernel
theorem d_X4_findFirst_100 : decode cX4_findFirst 100 = .ok (.istore 9, 2) := by decide +kernel
theorem d_X4_findFirst_102 : decode cX4_findFirst 102 = .ok (.iload 9, 2) := by decide +kernel
theorem d_X4_findFirst_104 : decode cX4_findFirst 104 = .ok (.iconst 4, 1) := by decide +kernel
theorem d_X4_findFirst_105 : decode cX4_findFirst 105 = .ok (.if_icmp .gt 116, 3) := by decide +kernel
theorem d_X4_findFirst_108 : decode cX4_findFirst 108 = .ok (.aload_n 0, 1) := by decide +kernel
theorem d_X4_findFirst_109 : decode cX4_findFirst 109 = .ok (.getfield 9, 3) := by decide +kernel
theorem d_X4_findFirst_112 : decode cX4_findFirst 112 = .ok (.iload 7, 2) := by decide +kernel
theorem d_X4_findFirst_114 : decode cX4_findFirst 114 = .ok (.iload 9, 2) := by decide +kernel
theorem d_X4_findFirst_116 : decode cX4_findFirst 116 = .ok (.invokevirtual 58, 3) := by decide +kernel
theorem d_X4_findFirst_119 : decode cX4_findFirst 119 = .ok (.istore 10, 2) := by decide +kernel
theorem d_X4_findFirst_121 : decode cX4_findFirst 121 = .ok (.aload_n 0, 1) := by decide +kernel
theorem d_X4_findFirst_122 : decode cX4_findFirst 122 = .ok (.iload 7, 2) := by decide +kernel
theorem d_X4_findFirst_124 : decode cX4_findFirst 124 = .ok (.iload 10, 2) := by decide +kernel
theorem d_X4_findFirst_126 : decode cX4_findFirst 126 = .ok (.iload 8, 2) := by decide +kernel
theorem d_X4_findFirst_128 : decode cX4_findFirst 128 = .ok (.invokevirtual 62, 3) := by decide +kernel
theorem d_X4_findFirst_131 : decode cX4_findFirst 131 = .ok (.ifCond .eq 84, 3) := by decide +kernel
theorem d_X4_findFirst_134 : decode cX4_findFirst 134 = .ok (.aload_n 0, 1) := by decide +kernel
theorem d_X4_findFirst_135 : decode cX4_findFirst 135 = .ok (.getfield 19, 3) := by decide +kernel
theorem d_X4_findFirst_138 : decode cX4_findFirst 138 = .ok (.iload 8, 2) := by decide +kernel
theorem d_X4_findFirst_140 : decode cX4_findFirst 140 = .ok (.bipush 48, 2) := by decide +kernel
theorem d_X4_findFirst_142 : decode cX4_findFirst 142 = .ok (.imul, 1) := by decide +kernel
theorem d_X4_findFirst_143 : decode cX4_findFirst 143 = .ok (.iload 10, 2) := by decide +kernel
theorem d_X4_findFirst_145 : decode cX4_findFirst 145 = .ok (.iadd, 1) := by decide +kernel
theorem d_X4_findFirst_146 : decode cX4_findFirst 146 = .ok (.iaload, 1) := by decide +kernel
theorem d_X4_findFirst_147 : decode cX4_findFirst 147 = .ok (.iconst (-1), 1) := by decide +kernel
theorem d_X4_findFirst_148 : decode cX4_findFirst 148 = .ok (.if_icmp .ne 67, 3) := by decide +kernel
theorem d_X4_findFirst_151 : decode cX4_findFirst 151 = .ok (.iload 4, 2) := by decide +kernel
theorem d_X4_findFirst_153 : decode cX4_findFirst 153 = .ok (.sipush 1488, 3) := by decide +kernel
theorem d_X4_findFirst_156 : decode cX4_findFirst 156 = .ok (.if_icmp .lt 6, 3) := by decide +kernel
theorem d_X4_findFirst_159 : decode cX4_findFirst 159 = .ok (.goto 56, 3) := by decide +kernel
theorem d_X4_findFirst_162 : decode cX4_findFirst 162 = .ok (.aload_n 0, 1) := by decide +kernel
theorem d_X4_findFirst_163 : decode cX4_findFirst 163 = .ok (.getfield 19, 3) := by decide +kernel
theorem d_X4_findFirst_166 : decode cX4_findFirst 166 = .ok (.iload 8, 2) := by decide +kernel
theorem d_X4_findFirst_168 : decode cX4_findFirst 168 = .ok (.bipush 48, 2) := by decide +kernel
theorem d_X4_findFirst_170 : decode cX4_findFirst 170 = .ok (.imul, 1) := by decide +kernel
theorem d_X4_findFirst_171 : decode cX4_findFirst 171 = .ok (.iload 10, 2) := by decide +kernel
theorem d_X4_findFirst_173 : decode cX4_findFirst 173 = .ok (.iadd, 1) := by decide +kernel
theorem d_X4_findFirst_174 : decode cX4_findFirst 174 = .ok (.iload 6, 2) := by decide +kernel
theorem d_X4_findFirst_176 : decode cX4_findFirst 176 = .ok (.iastore, 1) := by decide +kernel
theorem d_X4_findFirst_177 : decode cX4_findFirst 177 = .ok (.aload_n 0, 1) := by decide +kernel
theorem d_X4_findFirst_178 : decode cX4_findFirst 178 = .ok (.getfield 15, 3) := by decide +kernel
theorem d_X4_findFirst_181 : decode cX4_findFirst 181 = .ok (.iload 4, 2) := by decide +kernel
theorem d_X4_findFirst_183 : decode cX4_findFirst 183 = .ok (.iload 8, 2) := by decide +kernel
theorem d_X4_findFirst_185 : decode cX4_findFirst 185 = .ok (.bipush 48, 2) := by decide +kernel
theorem d_X4_findFirst_187 : decode cX4_findFirst 187 = .ok (.imul, 1) := by decide +kernel
theorem d_X4_findFirst_188 : decode cX4_findFirst 188 = .ok (.iload 10, 2) := by decide +kernel
theorem d_X4_findFirst_190 : decode cX4_findFirst 190 = .ok (.iadd, 1) := by decide +kernel
theorem d_X4_findFirst_191 : decode cX4_findFirst 191 = .ok (.iastore, 1) := by decide +kernel
theorem d_X4_findFirst_192 : decode cX4_findFirst 192 = .ok (.iinc 4 1, 3) := by decide +kernel
theorem d_X4_findFirst_195 : decode cX4_findFirst 195 = .ok (.aload_n 0, 1) := by decide +kernel
theorem d_X4_findFirst_196 : decode cX4_findFirst 196 = .ok (.iload 10, 2) := by decide +kernel
theorem d_X4_findFirst_198 : decode cX4_findFirst 198 = .ok (.iload 8, 2) := by decide +kernel
theorem d_X4_findFirst_200 : decode cX4_findFirst 200 = .ok (.invokevirtual 66, 3) := by decide +kernel
theorem d_X4_findFirst_203 : decode cX4_findFirst 203 = .ok (.ifCond .eq 12, 3) := by decide +kernel
theorem d_X4_findFirst_206 : decode cX4_findFirst 206 = .ok (.aload_n 0, 1) := by decide +kernel
theorem d_X4_findFirst_207 : decode cX4_findFirst 207 = .ok (.iload 8, 2) := by decide +kernel
theorem d_X4_findFirst_209 : decode cX4_findFirst 209 = .ok (.invokevirtual 69, 3) := by decide +kernel
theorem d_X4_findFirst_212 : decode cX4_findFirst 212 = .ok (.iload 8, 2) := by decide +kernel
theorem d_X4_findFirst_214 : decode cX4_findFirst 214 = .ok (.ireturn, 1) := by decide +kernel
theorem d_X4_findFirst_215 : decode cX4_findFirst 215 = .ok (.iinc 9 1, 3) := by decide +kernel
theorem d_X4_findFirst_218 : decode cX4_findFirst 218 = .ok (.goto (-116), 3) := by decide +kernel
theorem d_X4_findFirst_221 : decode cX4_findFirst 221 = .ok (.iinc 5 1, 3) := by decide +kernel
theorem d_X4_findFirst_224 : decode cX4_findFirst 224 = .ok (.goto (-173), 3) := by decide +kernel
theorem d_X4_findFirst_227 : decode cX4_findFirst 227 = .ok (.iconst (-1), 1) := by decide +kernel
theorem d_X4_findFirst_228 : decode cX4_findFirst 228 = .ok (.ireturn, 1) := by decide +kernel
theorem d_X4_tracePath_0 : decode cX4_tracePath 0 = .ok (.iload_n 1, 1) := by decide +kernel
theorem d_X4_tracePath_1 : decode cX4_tracePath 1 = .ok (.bipush 48, 2) := by decide +kernel
theorem d_X4_tracePath_3 : decode cX4_tracePath 3 = .ok (.imul, 1) := by decide +kernel
theorem d_X4_tracePath_4 : decode cX4_tracePath 4 = .ok (.aload_n 0, 1) := by decide +kernel
theorem d_X4_tracePath_5 : decode cX4_tracePath 5 = .ok (.getfield 73, 3) := by decide +kernel
theorem d_X4_tracePath_8 : decode cX4_tracePath 8 = .ok (.iadd, 1) := by decide +kernel
theorem d_X4_tracePath_9 : decode cX4_tracePath 9 = .ok (.istore_n 2, 1) := by decide +kernel
theorem d_X4_tracePath_10 : decode cX4_tracePath 10 = .ok (.iload_n 1, 1) := by decide +kernel
theorem d_X4_tracePath_11 : decode cX4_tracePath 11 = .ok (.istore_n 3, 1) := by decide +kernel
theorem d_X4_tracePath_12 : decode cX4_tracePath 12 = .ok (.iload_n 3, 1) := by decide +kernel
theorem d_X4_tracePath_13 : decode cX4_tracePath 13 = .ok (.ifCond .le 46, 3) := by decide +kernel
theorem d_X4_tracePath_16 : decode cX4_tracePath 16 = .ok (.iload_n 3, 1) := by decide +kernel
theorem d_X4_tracePath_17 : decode cX4_tracePath 17 = .ok (.bipush 30, 2) := by decide +kernel
theorem d_X4_tracePath_19 : decode cX4_tracePath 19 = .ok (.if_icmp .gt 40, 3) := by decide +kernel
theorem d_X4_tracePath_22 : decode cX4_tracePath 22 = .ok (.iload_n 2, 1) := by decide +kernel
theorem d_X4_tracePath_23 : decode cX4_tracePath 23 = .ok (.ifCond .lt 10, 3) := by decide +kernel
theorem d_X4_tracePath_26 : decode cX4_tracePath 26 = .ok (.iload_n 2, 1) := by decide +kernel
theorem d_X4_tracePath_27 : decode cX4_tracePath 27 = .ok (.sipush 1488, 3) := by decide +kernel
theorem d_X4_tracePath_30 : decode cX4_tracePath 30 = .ok (.if_icmp .lt 4, 3) := by decide +kernel
theorem d_X4_tracePath_33 : decode cX4_tracePath 33 = .ok (.return_, 1) := by decide +kernel
theorem d_X4_tracePath_34 : decode cX4_tracePath 34 = .ok (.aload_n 0, 1) := by decide +kernel
theorem d_X4_tracePath_35 : decode cX4_tracePath 35 = .ok (.getfield 26, 3) := by decide +kernel
theorem d_X4_tracePath_38 : decode cX4_tracePath 38 = .ok (.iload_n 3, 1) := by decide +kernel
theorem d_X4_tracePath_39 : decode cX4_tracePath 39 = .ok (.iconst 1, 1) := by decide +kernel
theorem d_X4_tracePath_40 : decode cX4_tracePath 40 = .ok (.isub, 1) := by decide +kernel
theorem d_X4_tracePath_41 : decode cX4_tracePath 41 = .ok (.iload_n 2, 1) := by decide +kernel
theorem d_X4_tracePath_42 : decode cX4_tracePath 42 = .ok (.bipush 48, 2) := by decide +kernel
theorem d_X4_tracePath_44 : decode cX4_tracePath 44 = .ok (.irem, 1) := by decide +kernel
theorem d_X4_tracePath_45 : decode cX4_tracePath 45 = .ok (.iastore, 1) := by decide +kernel
theorem d_X4_tracePath_46 : decode cX4_tracePath 46 = .ok (.aload_n 0, 1) := by decide +kernel
theorem d_X4_tracePath_47 : decode cX4_tracePath 47 = .ok (.getfield 19, 3) := by decide +kernel
theorem d_X4_tracePath_50 : decode cX4_tracePath 50 = .ok (.iload_n 2, 1) := by decide +kernel
theorem d_X4_tracePath_51 : decode cX4_tracePath 51 = .ok (.iaload, 1) := by decide +kernel
theorem d_X4_tracePath_52 : decode cX4_tracePath 52 = .ok (.istore_n 2, 1) := by decide +kernel
theorem d_X4_tracePath_53 : decode cX4_tracePath 53 = .ok (.iinc 3 (-1), 3) := by decide +kernel
theorem d_X4_tracePath_56 : decode cX4_tracePath 56 = .ok (.goto (-44), 3) := by decide +kernel
theorem d_X4_tracePath_59 : decode cX4_tracePath 59 = .ok (.return_, 1) := by decide +kernel
theorem d_X4_stepsOfPath_0 : decode cX4_stepsOfPath 0 = .ok (.iconst 0, 1) := by decide +kernel
theorem d_X4_stepsOfPath_1 : decode cX4_stepsOfPath 1 = .ok (.istore_n 2, 1) := by decide +kernel
theorem d_X4_stepsOfPath_2 : decode cX4_stepsOfPath 2 = .ok (.aload_n 0, 1) := by decide +kernel
theorem d_X4_stepsOfPath_3 : decode cX4_stepsOfPath 3 = .ok (.getfield 9, 3) := by decide +kernel
theorem d_X4_stepsOfPath_6 : decode cX4_stepsOfPath 6 = .ok (.getfield 43, 3) := by decide +kernel
theorem d_X4_stepsOfPath_9 : decode cX4_stepsOfPath 9 = .ok (.aload_n 0, 1) := by decide +kernel
theorem d_X4_stepsOfPath_10 : decode cX4_stepsOfPath 10 = .ok (.getfield 49, 3) := by decide +kernel
theorem d_X4_stepsOfPath_13 : decode cX4_stepsOfPath 13 = .ok (.aaload, 1) := by decide +kernel
theorem d_X4_stepsOfPath_14 : decode cX4_stepsOfPath 14 = .ok (.getfield 53, 3) := by decide +kernel
theorem d_X4_stepsOfPath_17 : decode cX4_stepsOfPath 17 = .ok (.istore_n 3, 1) := by decide +kernel
theorem d_X4_stepsOfPath_18 : decode cX4_stepsOfPath 18 = .ok (.iconst 0, 1) := by decide +kernel
theorem d_X4_stepsOfPath_19 : decode cX4_stepsOfPath 19 = .ok (.istore 4, 2) := by decide +kernel
theorem d_X4_stepsOfPath_21 : decode cX4_stepsOfPath 21 = .ok (.iload 4, 2) := by decide +kernel
theorem d_X4_stepsOfPath_23 : decode cX4_stepsOfPath 23 = .ok (.iload_n 1, 1) := by decide +kernel
theorem d_X4_stepsOfPath_24 : decode cX4_stepsOfPath 24 = .ok (.if_icmp .ge 38, 3) := by decide +kernel
theorem d_X4_stepsOfPath_27 : decode cX4_stepsOfPath 27 = .ok (.iload 4, 2) := by decide +kernel
theorem d_X4_stepsOfPath_29 : decode cX4_stepsOfPath 29 = .ok (.bipush 30, 2) := by decide +kernel
theorem d_X4_stepsOfPath_31 : decode cX4_stepsOfPath 31 = .ok (.if_icmp .ge 31, 3) := by decide +kernel
theorem d_X4_stepsOfPath_34 : decode cX4_stepsOfPath 34 = .ok (.aload_n 0, 1) := by decide +kernel
theorem d_X4_stepsOfPath_35 : decode cX4_stepsOfPath 35 = .ok (.getfield 26, 3) := by decide +kernel
theorem d_X4_stepsOfPath_38 : decode cX4_stepsOfPath 38 = .ok (.iload 4, 2) := by decide +kernel
theorem d_X4_stepsOfPath_40 : decode cX4_stepsOfPath 40 = .ok (.iaload, 1) := by decide +kernel
theorem d_X4_stepsOfPath_41 : decode cX4_stepsOfPath 41 = .ok (.iload_n 3, 1) := by decide +kernel
theorem d_X4_stepsOfPath_42 : decode cX4_stepsOfPath 42 = .ok (.if_icmp .eq 6, 3) := by decide +kernel
theorem d_X4_stepsOfPath_45 : decode cX4_stepsOfPath 45 = .ok (.iinc 2 1, 3) := by decide +kernel
theorem d_X4_stepsOfPath_48 : decode cX4_stepsOfPath 48 = .ok (.aload_n 0, 1) := by decide +kernel
theorem d_X4_stepsOfPath_49 : decode cX4_stepsOfPath 49 = .ok (.getfield 26, 3) := by decide +kernel
theorem d_X4_stepsOfPath_52 : decode cX4_stepsOfPath 52 = .ok (.iload 4, 2) := by decide +kernel
theorem d_X4_stepsOfPath_54 : decode cX4_stepsOfPath 54 = .ok (.iaload, 1) := by decide +kernel
theorem d_X4_stepsOfPath_55 : decode cX4_stepsOfPath 55 = .ok (.istore_n 3, 1) := by decide +kernel
theorem d_X4_stepsOfPath_56 : decode cX4_stepsOfPath 56 = .ok (.iinc 4 1, 3) := by decide +kernel
theorem d_X4_stepsOfPath_59 : decode cX4_stepsOfPath 59 = .ok (.goto (-38), 3) := by decide +kernel
theorem d_X4_stepsOfPath_62 : decode cX4_stepsOfPath 62 = .ok (.iload_n 2, 1) := by decide +kernel
theorem d_X4_stepsOfPath_63 : decode cX4_stepsOfPath 63 = .ok (.ireturn, 1) := by decide +kernel
theorem d_X4_findTickByTick_0 : decode cX4_findTickByTick 0 = .ok (.aload_n 0, 1) := by decide +kernel
theorem d_X4_findTickByTick_1 : decode cX4_findTickByTick 1 = .ok (.iload_n 1, 1) := by decide +kernel
theorem d_X4_findTickByTick_2 : decode cX4_findTickByTick 2 = .ok (.iload_n 2, 1) := by decide +kernel
theorem d_X4_findTickByTick_3 : decode cX4_findTickByTick 3 = .ok (.invokevirtual 29, 3) := by decide +kernel
theorem d_X4_findTickByTick_6 : decode cX4_findTickByTick 6 = .ok (.ifCond .ne 5, 3) := by decide +kernel
theorem d_X4_findTickByTick_9 : decode cX4_findTickByTick 9 = .ok (.iconst (-1), 1) := by decide +kernel
theorem d_X4_findTickByTick_10 : decode cX4_findTickByTick 10 = .ok (.ireturn, 1) := by decide +kernel
theorem d_X4_findTickByTick_11 : decode cX4_findTickByTick 11 = .ok (.lconst 1, 1) := by decide +kernel
theorem d_X4_findTickByTick_12 : decode cX4_findTickByTick 12 = .ok (.aload_n 0, 1) := by decide +kernel
theorem d_X4_findTickByTick_13 : decode cX4_findTickByTick 13 = .ok (.getfield 9, 3) := by decide +kernel
theorem d_X4_findTickByTick_16 : decode cX4_findTickByTick 16 = .ok (.getfield 43, 3) := by decide +kernel
theorem d_X4_findTickByTick_19 : decode cX4_findTickByTick 19 = .ok (.aload_n 0, 1) := by decide +kernel
theorem d_X4_findTickByTick_20 : decode cX4_findTickByTick 20 = .ok (.getfield 49, 3) := by decide +kernel
theorem d_X4_findTickByTick_23 : decode cX4_findTickByTick 23 = .ok (.aaload, 1) := by decide +kernel
theorem d_X4_findTickByTick_24 : decode cX4_findTickByTick 24 = .ok (.getfield 53, 3) := by decide +kernel
theorem d_X4_findTickByTick_27 : decode cX4_findTickByTick 27 = .ok (.lshl, 1) := by decide +kernel
theorem d_X4_findTickByTick_28 : decode cX4_findTickByTick 28 = .ok (.lstore_n 3, 1) := by decide +kernel
theorem d_X4_findTickByTick_29 : decode cX4_findTickByTick 29 = .ok (.aload_n 0, 1) := by decide +kernel
theorem d_X4_findTickByTick_30 : decode cX4_findTickByTick 30 = .ok (.invokevirtual 39, 3) := by decide +kernel
theorem d_X4_findTickByTick_33 : decode cX4_findTickByTick 33 = .ok (.istore 5, 2) := by decide +kernel
theorem d_X4_findTickByTick_35 : decode cX4_findTickByTick 35 = .ok (.iconst 1, 1) := by decide +kernel
theorem d_X4_findTickByTick_36 : decode cX4_findTickByTick 36 = .ok (.istore 6, 2) := by decide +kernel
theorem d_X4_findTickByTick_38 : decode cX4_findTickByTick 38 = .ok (.iload 6, 2) := by decide +kernel
theorem d_X4_findTickByTick_40 : decode cX4_findTickByTick 40 = .ok (.iload 5, 2) := by decide +kernel
theorem d_X4_findTickByTick_42 : decode cX4_findTickByTick 42 = .ok (.if_icmp .gt 46, 3) := by decide +kernel
theorem d_X4_findTickByTick_45 : decode cX4_findTickByTick 45 = .ok (.aload_n 0, 1) := by decide +kernel
theorem d_X4_findTickByTick_46 : decode cX4_findTickByTick 46 = .ok (.lload_n 3, 1) := by decide +kernel
theorem d_X4_findTickByTick_47 : decode cX4_findTickByTick 47 = .ok (.iload 6, 2) := by decide +kernel
theorem d_X4_findTickByTick_49 : decode cX4_findTickByTick 49 = .ok (.invokevirtual 76, 3) := by decide +kernel
theorem d_X4_findTickByTick_52 : decode cX4_findTickByTick 52 = .ok (.lstore_n 3, 1) := by decide +kernel
theorem d_X4_findTickByTick_53 : decode cX4_findTickByTick 53 = .ok (.lload_n 3, 1) := by decide +kernel
theorem d_X4_findTickByTick_54 : decode cX4_findTickByTick 54 = .ok (.aload_n 0, 1) := by decide +kernel
theorem d_X4_findTickByTick_55 : decode cX4_findTickByTick 55 = .ok (.getfield 73, 3) := by decide +kernel
theorem d_X4_findTickByTick_58 : decode cX4_findTickByTick 58 = .ok (.lushr, 1) := by decide +kernel
theorem d_X4_findTickByTick_59 : decode cX4_findTickByTick 59 = .ok (.lconst 1, 1) := by decide +kernel
theorem d_X4_findTickByTick_60 : decode cX4_findTickByTick 60 = .ok (.land, 1) := by decide +kernel
theorem d_X4_findTickByTick_61 : decode cX4_findTickByTick 61 = .ok (.lconst 0, 1) := by decide +kernel
theorem d_X4_findTickByTick_62 : decode cX4_findTickByTick 62 = .ok (.lcmp, 1) := by decide +kernel
theorem d_X4_findTickByTick_63 : decode cX4_findTickByTick 63 = .ok (.ifCond .eq 19, 3) := by decide +kernel
theorem d_X4_findTickByTick_66 : decode cX4_findTickByTick 66 = .ok (.aload_n 0, 1) := by decide +kernel
theorem d_X4_findTickByTick_67 : decode cX4_findTickByTick 67 = .ok (.aload_n 0, 1) := by decide +kernel
theorem d_X4_findTickByTick_68 : decode cX4_findTickByTick 68 = .ok (.getfield 73, 3) := by decide +kernel
theorem d_X4_findTickByTick_71 : decode cX4_findTickByTick 71 = .ok (.iload 6, 2) := by decide +kernel
theorem d_X4_findTickByTick_73 : decode cX4_findTickByTick 73 = .ok (.invokevirtual 66, 3) := by decide +kernel
theorem d_X4_findTickByTick_76 : decode cX4_findTickByTick 76 = .ok (.ifCond .eq 6, 3) := by decide +kernel
theorem d_X4_findTickByTick_79 : decode cX4_findTickByTick 79 = .ok (.iload 6, 2) := by decide +kernel
theorem d_X4_findTickByTick_81 : decode cX4_findTickByTick 81 = .ok (.ireturn, 1) := by decide +kernel
theorem d_X4_findTickByTick_82 : decode cX4_findTickByTick 82 = .ok (.iinc 6 1, 3) := by decide +kernel
theorem d_X4_findTickByTick_85 : decode cX4_findTickByTick 85 = .ok (.goto (-47), 3) := by decide +kernel
theorem d_X4_findTickByTick_88 : decode cX4_findTickByTick 88 = .ok (.iconst (-1), 1) := by decide +kernel
theorem d_X4_findTickByTick_89 : decode cX4_findTickByTick 89 = .ok (.ireturn, 1) := by decide +kernel
theorem d_X4_cellsAfter_0 : decode cX4_cellsAfter 0 = .ok (.lconst 0, 1) := by decide +kernel
theorem d_X4_cellsAfter_1 : decode cX4_cellsAfter 1 = .ok (.lstore 4, 2) := by decide +kernel
theorem d_X4_cellsAfter_3 : decode cX4_cellsAfter 3 = .ok (.iconst 0, 1) := by decide +kernel
theorem d_X4_cellsAfter_4 : decode cX4_cellsAfter 4 = .ok (.istore 6, 2) := by decide +kernel
theorem d_X4_cellsAfter_6 : decode cX4_cellsAfter 6 = .ok (.aload_n 0, 1) := by decide +kernel
theorem d_X4_cellsAfter_7 : decode cX4_cellsAfter 7 = .ok (.getfield 9, 3) := by decide +kernel
theorem d_X4_cellsAfter_10 : decode cX4_cellsAfter 10 = .ok (.iload 6, 2) := by decide +kernel
theorem d_X4_cellsAfter_12 : decode cX4_cellsAfter 12 = .ok (.invokevirtual 80, 3) := by decide +kernel
theorem d_X4_cellsAfter_15 : decode cX4_cellsAfter 15 = .ok (.ifCond .eq 36, 3) := by decide +kernel
theorem d_X4_cellsAfter_18 : decode cX4_cellsAfter 18 = .ok (.iload 6, 2) := by decide +kernel
theorem d_X4_cellsAfter_20 : decode cX4_cellsAfter 20 = .ok (.bipush 48, 2) := by decide +kernel
theorem d_X4_cellsAfter_22 : decode cX4_cellsAfter 22 = .ok (.if_icmp .ge 29, 3) := by decide +kernel
theorem d_X4_cellsAfter_25 : decode cX4_cellsAfter 25 = .ok (.aload_n 0, 1) := by decide +kernel
theorem d_X4_cellsAfter_26 : decode cX4_cellsAfter 26 = .ok (.iload 6, 2) := by decide +kernel
theorem d_X4_cellsAfter_28 : decode cX4_cellsAfter 28 = .ok (.lload_n 1, 1) := by decide +kernel
theorem d_X4_cellsAfter_29 : decode cX4_cellsAfter 29 = .ok (.iload_n 3, 1) := by decide +kernel
theorem d_X4_cellsAfter_30 : decode cX4_cellsAfter 30 = .ok (.invokevirtual 84, 3) := by decide +kernel
theorem d_X4_cellsAfter_33 : decode cX4_cellsAfter 33 = .ok (.ifCond .eq 12, 3) := by decide +kernel
theorem d_X4_cellsAfter_36 : decode cX4_cellsAfter 36 = .ok (.lload 4, 2) := by decide +kernel
theorem d_X4_cellsAfter_38 : decode cX4_cellsAfter 38 = .ok (.lconst 1, 1) := by decide +kernel
theorem d_X4_cellsAfter_39 : decode cX4_cellsAfter 39 = .ok (.iload 6, 2) := by decide +kernel
theorem d_X4_cellsAfter_41 : decode cX4_cellsAfter 41 = .ok (.lshl, 1) := by decide +kernel
theorem d_X4_cellsAfter_42 : decode cX4_cellsAfter 42 = .ok (.lor, 1) := by decide +kernel
theorem d_X4_cellsAfter_43 : decode cX4_cellsAfter 43 = .ok (.lstore 4, 2) := by decide +kernel
theorem d_X4_cellsAfter_45 : decode cX4_cellsAfter 45 = .ok (.iinc 6 1, 3) := by decide +kernel
theorem d_X4_cellsAfter_48 : decode cX4_cellsAfter 48 = .ok (.goto (-42), 3) := by decide +kernel
theorem d_X4_cellsAfter_51 : decode cX4_cellsAfter 51 = .ok (.lload 4, 2) := by decide +kernel
theorem d_X4_cellsAfter_53 : decode cX4_cellsAfter 53 = .ok (.lreturn, 1) := by decide +kernel
theorem d_X4_canComeTo_0 : decode cX4_canComeTo 0 = .ok (.iconst 0, 1) := by decide +kernel
theorem d_X4_canComeTo_1 : decode cX4_canComeTo 1 = .ok (.istore 5, 2) := by decide +kernel
theorem d_X4_canComeTo_3 : decode cX4_canComeTo 3 = .ok (.iload 5, 2) := by decide +kernel
theorem d_X4_canComeTo_5 : decode cX4_canComeTo 5 = .ok (.iconst 4, 1) := by decide +kernel
theorem d_X4_canComeTo_6 : decode cX4_canComeTo 6 = .ok (.if_icmp .gt 52, 3) := by decide +kernel
theorem d_X4_canComeTo_9 : decode cX4_canComeTo 9 = .ok (.aload_n 0, 1) := by decide +kernel
theorem d_X4_canComeTo_10 : decode cX4_canComeTo 10 = .ok (.getfield 9, 3) := by decide +kernel
theorem d_X4_canComeTo_13 : decode cX4_canComeTo 13 = .ok (.iload_n 1, 1) := by decide +kernel
theorem d_X4_canComeTo_14 : decode cX4_canComeTo 14 = .ok (.iload 5, 2) := by decide +kernel
theorem d_X4_canComeTo_16 : decode cX4_canComeTo 16 = .ok (.invokevirtual 58, 3) := by decide +kernel
theorem d_X4_canComeTo_19 : decode cX4_canComeTo 19 = .ok (.istore 6, 2) := by decide +kernel
theorem d_X4_canComeTo_21 : decode cX4_canComeTo 21 = .ok (.iload 6, 2) := by decide +kernel
theorem d_X4_canComeTo_23 : decode cX4_canComeTo 23 = .ok (.iconst (-1), 1) := by decide +kernel
theorem d_X4_canComeTo_24 : decode cX4_canComeTo 24 = .ok (.if_icmp .eq 28, 3) := by decide +kernel
theorem d_X4_canComeTo_27 : decode cX4_canComeTo 27 = .ok (.lload_n 2, 1) := by decide +kernel
theorem d_X4_canComeTo_28 : decode cX4_canComeTo 28 = .ok (.iload 6, 2) := by decide +kernel
theorem d_X4_canComeTo_30 : decode cX4_canComeTo 30 = .ok (.lushr, 1) := by decide +kernel
theorem d_X4_canComeTo_31 : decode cX4_canComeTo 31 = .ok (.lconst 1, 1) := by decide +kernel
theorem d_X4_canComeTo_32 : decode cX4_canComeTo 32 = .ok (.land, 1) := by decide +kernel
theorem d_X4_canComeTo_33 : decode cX4_canComeTo 33 = .ok (.lconst 0, 1) := by decide +kernel
theorem d_X4_canComeTo_34 : decode cX4_canComeTo 34 = .ok (.lcmp, 1) := by decide +kernel
theorem d_X4_canComeTo_35 : decode cX4_canComeTo 35 = .ok (.ifCond .eq 17, 3) := by decide +kernel
theorem d_X4_canComeTo_38 : decode cX4_canComeTo 38 = .ok (.aload_n 0, 1) := by decide +kernel
theorem d_X4_canComeTo_39 : decode cX4_canComeTo 39 = .ok (.iload 6, 2) := by decide +kernel
theorem d_X4_canComeTo_41 : decode cX4_canComeTo 41 = .ok (.iload_n 1, 1) := by decide +kernel
theorem d_X4_canComeTo_42 : decode cX4_canComeTo 42 = .ok (.iload 4, 2) := by decide +kernel
theorem d_X4_canComeTo_44 : decode cX4_canComeTo 44 = .ok (.invokevirtual 62, 3) := by decide +kernel
theorem d_X4_canComeTo_47 : decode cX4_canComeTo 47 = .ok (.ifCond .eq 5, 3) := by decide +kernel
theorem d_X4_canComeTo_50 : decode cX4_canComeTo 50 = .ok (.iconst 1, 1) := by decide +kernel
theorem d_X4_canComeTo_51 : decode cX4_canComeTo 51 = .ok (.ireturn, 1) := by decide +kernel
theorem d_X4_canComeTo_52 : decode cX4_canComeTo 52 = .ok (.iinc 5 1, 3) := by decide +kernel
theorem d_X4_canComeTo_55 : decode cX4_canComeTo 55 = .ok (.goto (-52), 3) := by decide +kernel
theorem d_X4_canComeTo_58 : decode cX4_canComeTo 58 = .ok (.iconst 0, 1) := by decide +kernel
theorem d_X4_canComeTo_59 : decode cX4_canComeTo 59 = .ok (.ireturn, 1) := by decide +kernel
theorem d_X4_prepare_0 : decode cX4_prepare 0 = .ok (.aload_n 0, 1) := by decide +kernel
theorem d_X4_prepare_1 : decode cX4_prepare 1 = .ok (.getfield 9, 3) := by decide +kernel
theorem d_X4_prepare_4 : decode cX4_prepare 4 = .ok (.iload_n 1, 1) := by decide +kernel
theorem d_X4_prepare_5 : decode cX4_prepare 5 = .ok (.invokevirtual 88, 3) := by decide +kernel
theorem d_X4_prepare_8 : decode cX4_prepare 8 = .ok (.ifCond .eq 36, 3) := by decide +kernel
theorem d_X4_prepare_11 : decode cX4_prepare 11 = .ok (.aload_n 0, 1) := by decide +kernel
theorem d_X4_prepare_12 : decode cX4_prepare 12 = .ok (.getfield 9, 3) := by decide +kernel
theorem d_X4_prepare_15 : decode cX4_prepare 15 = .ok (.aload_n 0, 1) := by decide +kernel
theorem d_X4_prepare_16 : decode cX4_prepare 16 = .ok (.getfield 9, 3) := by decide +kernel
theorem d_X4_prepare_19 : decode cX4_prepare 19 = .ok (.getfield 43, 3) := by decide +kernel
theorem d_X4_prepare_22 : decode cX4_prepare 22 = .ok (.iload_n 1, 1) := by decide +kernel
theorem d_X4_prepare_23 : decode cX4_prepare 23 = .ok (.aaload, 1) := by decide +kernel
theorem d_X4_prepare_24 : decode cX4_prepare 24 = .ok (.getfield 53, 3) := by decide +kernel
theorem d_X4_prepare_27 : decode cX4_prepare 27 = .ok (.invokevirtual 80, 3) := by decide +kernel
theorem d_X4_prepare_30 : decode cX4_prepare 30 = .ok (.ifCond .eq 14, 3) := by decide +kernel
theorem d_X4_prepare_33 : decode cX4_prepare 33 = .ok (.aload_n 0, 1) := by decide +kernel
theorem d_X4_prepare_34 : decode cX4_prepare 34 = .ok (.getfield 9, 3) := by decide +kernel
theorem d_X4_prepare_37 : decode cX4_prepare 37 = .ok (.iload_n 2, 1) := by decide +kernel
theorem d_X4_prepare_38 : decode cX4_prepare 38 = .ok (.invokevirtual 91, 3) := by decide +kernel
theorem d_X4_prepare_41 : decode cX4_prepare 41 = .ok (.ifCond .ne 5, 3) := by decide +kernel
theorem d_X4_prepare_44 : decode cX4_prepare 44 = .ok (.iconst 0, 1) := by decide +kernel
theorem d_X4_prepare_45 : decode cX4_prepare 45 = .ok (.ireturn, 1) := by decide +kernel
theorem d_X4_prepare_46 : decode cX4_prepare 46 = .ok (.aload_n 0, 1) := by decide +kernel
theorem d_X4_prepare_47 : decode cX4_prepare 47 = .ok (.iload_n 1, 1) := by decide +kernel
theorem d_X4_prepare_48 : decode cX4_prepare 48 = .ok (.putfield 49, 3) := by decide +kernel
theorem d_X4_prepare_51 : decode cX4_prepare 51 = .ok (.aload_n 0, 1) := by decide +kernel
theorem d_X4_prepare_52 : decode cX4_prepare 52 = .ok (.iload_n 2, 1) := by decide +kernel
theorem d_X4_prepare_53 : decode cX4_prepare 53 = .ok (.putfield 73, 3) := by decide +kernel
theorem d_X4_prepare_56 : decode cX4_prepare 56 = .ok (.aload_n 0, 1) := by decide +kernel
theorem d_X4_prepare_57 : decode cX4_prepare 57 = .ok (.iconst (-1), 1) := by decide +kernel
theorem d_X4_prepare_58 : decode cX4_prepare 58 = .ok (.putfield 94, 3) := by decide +kernel
theorem d_X4_prepare_61 : decode cX4_prepare 61 = .ok (.aload_n 0, 1) := by decide +kernel
theorem d_X4_prepare_62 : decode cX4_prepare 62 = .ok (.getfield 22, 3) := by decide +kernel
theorem d_X4_prepare_65 : decode cX4_prepare 65 = .ok (.lconst 0, 1) := by decide +kernel
theorem d_X4_prepare_66 : decode cX4_prepare 66 = .ok (.invokestatic 97, 3) := by decide +kernel
theorem d_X4_prepare_69 : decode cX4_prepare 69 = .ok (.iconst 0, 1) := by decide +kernel
theorem d_X4_prepare_70 : decode cX4_prepare 70 = .ok (.istore_n 3, 1) := by decide +kernel
theorem d_X4_prepare_71 : decode cX4_prepare 71 = .ok (.aload_n 0, 1) := by decide +kernel
theorem d_X4_prepare_72 : decode cX4_prepare 72 = .ok (.getfield 9, 3) := by decide +kernel
theorem d_X4_prepare_75 : decode cX4_prepare 75 = .ok (.iload_n 3, 1) := by decide +kernel
theorem d_X4_prepare_76 : decode cX4_prepare 76 = .ok (.invokevirtual 88, 3) := by decide +kernel
theorem d_X4_prepare_79 : decode cX4_prepare 79 = .ok (.ifCond .eq 36, 3) := by decide +kernel
theorem d_X4_prepare_82 : decode cX4_prepare 82 = .ok (.iload_n 3, 1) := by decide +kernel
theorem d_X4_prepare_83 : decode cX4_prepare 83 = .ok (.bipush 6, 2) := by decide +kernel
theorem d_X4_prepare_85 : decode cX4_prepare 85 = .ok (.if_icmp .ge 30, 3) := by decide +kernel
theorem d_X4_prepare_88 : decode cX4_prepare 88 = .ok (.iload_n 3, 1) := by decide +kernel
theorem d_X4_prepare_89 : decode cX4_prepare 89 = .ok (.aload_n 0, 1) := by decide +kernel
theorem d_X4_prepare_90 : decode cX4_prepare 90 = .ok (.getfield 49, 3) := by decide +kernel
theorem d_X4_prepare_93 : decode cX4_prepare 93 = .ok (.if_icmp .eq 16, 3) := by decide +kernel
theorem d_X4_prepare_96 : decode cX4_prepare 96 = .ok (.aload_n 0, 1) := by decide +kernel
theorem d_X4_prepare_97 : decode cX4_prepare 97 = .ok (.aload_n 0, 1) := by decide +kernel
theorem d_X4_prepare_98 : decode cX4_prepare 98 = .ok (.getfield 9, 3) := by decide +kernel
theorem d_X4_prepare_101 : decode cX4_prepare 101 = .ok (.getfield 43, 3) := by decide +kernel
theorem d_X4_prepare_104 : decode cX4_prepare 104 = .ok (.iload_n 3, 1) := by decide +kernel
theorem d_X4_prepare_105 : decode cX4_prepare 105 = .ok (.aaload, 1) := by decide +kernel
theorem d_X4_prepare_106 : decode cX4_prepare 106 = .ok (.invokevirtual 100, 3) := by decide +kernel
theorem d_X4_prepare_109 : decode cX4_prepare 109 = .ok (.iinc 3 1, 3) := by decide +kernel
theorem d_X4_prepare_112 : decode cX4_prepare 112 = .ok (.goto (-41), 3) := by decide +kernel
theorem d_X4_prepare_115 : decode cX4_prepare 115 = .ok (.aload_n 0, 1) := by decide +kernel
theorem d_X4_prepare_116 : decode cX4_prepare 116 = .ok (.getfield 94, 3) := by decide +kernel
theorem d_X4_prepare_119 : decode cX4_prepare 119 = .ok (.aload_n 0, 1) := by decide +kernel
theorem d_X4_prepare_120 : decode cX4_prepare 120 = .ok (.invokevirtual 39, 3) := by decide +kernel
theorem d_X4_prepare_123 : decode cX4_prepare 123 = .ok (.if_icmp .ge 7, 3) := by decide +kernel
theorem d_X4_prepare_126 : decode cX4_prepare 126 = .ok (.iconst 1, 1) := by decide +kernel
theorem d_X4_prepare_127 : decode cX4_prepare 127 = .ok (.goto 4, 3) := by decide +kernel
theorem d_X4_prepare_130 : decode cX4_prepare 130 = .ok (.iconst 0, 1) := by decide +kernel
theorem d_X4_prepare_131 : decode cX4_prepare 131 = .ok (.ireturn, 1) := by decide +kernel
theorem d_X4_noteOther_0 : decode cX4_noteOther 0 = .ok (.iconst 0, 1) := by decide +kernel
theorem d_X4_noteOther_1 : decode cX4_noteOther 1 = .ok (.istore_n 2, 1) := by decide +kernel
theorem d_X4_noteOther_2 : decode cX4_noteOther 2 = .ok (.iload_n 2, 1) := by decide +kernel
theorem d_X4_noteOther_3 : decode cX4_noteOther 3 = .ok (.aload_n 0, 1) := by decide +kernel
theorem d_X4_noteOther_4 : decode cX4_noteOther 4 = .ok (.getfield 22, 3) := by decide +kernel
theorem d_X4_noteOther_7 : decode cX4_noteOther 7 = .ok (.arraylength, 1) := by decide +kernel
theorem d_X4_noteOther_8 : decode cX4_noteOther 8 = .ok (.if_icmp .ge 25, 3) := by decide +kernel
theorem d_X4_noteOther_11 : decode cX4_noteOther 11 = .ok (.aload_n 0, 1) := by decide +kernel
theorem d_X4_noteOther_12 : decode cX4_noteOther 12 = .ok (.getfield 22, 3) := by decide +kernel
theorem d_X4_noteOther_15 : decode cX4_noteOther 15 = .ok (.iload_n 2, 1) := by decide +kernel
theorem d_X4_noteOther_16 : decode cX4_noteOther 16 = .ok (.dup2, 1) := by decide +kernel
theorem d_X4_noteOther_17 : decode cX4_noteOther 17 = .ok (.laload, 1) := by decide +kernel
theorem d_X4_noteOther_18 : decode cX4_noteOther 18 = .ok (.lconst 1, 1) := by decide +kernel
theorem d_X4_noteOther_19 : decode cX4_noteOther 19 = .ok (.aload_n 1, 1) := by decide +kernel
theorem d_X4_noteOther_20 : decode cX4_noteOther 20 = .ok (.iload_n 2, 1) := by decide +kernel
theorem d_X4_noteOther_21 : decode cX4_noteOther 21 = .ok (.invokevirtual 104, 3) := by decide +kernel
theorem d_X4_noteOther_24 : decode cX4_noteOther 24 = .ok (.lshl, 1) := by decide +kernel
theorem d_X4_noteOther_25 : decode cX4_noteOther 25 = .ok (.lor, 1) := by decide +kernel
theorem d_X4_noteOther_26 : decode cX4_noteOther 26 = .ok (.lastore, 1) := by decide +kernel
theorem d_X4_noteOther_27 : decode cX4_noteOther 27 = .ok (.iinc 2 1, 3) := by decide +kernel
theorem d_X4_noteOther_30 : decode cX4_noteOther 30 = .ok (.goto (-28), 3) := by decide +kernel
theorem d_X4_noteOther_33 : decode cX4_noteOther 33 = .ok (.aload_n 0, 1) := by decide +kernel
theorem d_X4_noteOther_34 : decode cX4_noteOther 34 = .ok (.aload_n 0, 1) := by decide +kernel
theorem d_X4_noteOther_35 : decode cX4_noteOther 35 = .ok (.getfield 94, 3) := by decide +kernel
theorem d_X4_noteOther_38 : decode cX4_noteOther 38 = .ok (.aload_n 1, 1) := by decide +kernel
theorem d_X4_noteOther_39 : decode cX4_noteOther 39 = .ok (.aload_n 0, 1) := by decide +kernel
theorem d_X4_noteOther_40 : decode cX4_noteOther 40 = .ok (.getfield 73, 3) := by decide +kernel
theorem d_X4_noteOther_43 : decode cX4_noteOther 43 = .ok (.invokevirtual 108, 3) := by decide +kernel
theorem d_X4_noteOther_46 : decode cX4_noteOther 46 = .ok (.invokestatic 111, 3) := by decide +kernel
theorem d_X4_noteOther_49 : decode cX4_noteOther 49 = .ok (.putfield 94, 3) := by decide +kernel
theorem d_X4_noteOther_52 : decode cX4_noteOther 52 = .ok (.return_, 1) := by decide +kernel
theorem d_X4_horizon_0 : decode cX4_horizon 0 = .ok (.bipush 30, 2) := by decide +kernel
theorem d_X4_horizon_2 : decode cX4_horizon 2 = .ok (.aload_n 0, 1) := by decide +kernel
theorem d_X4_horizon_3 : decode cX4_horizon 3 = .ok (.getfield 9, 3) := by decide +kernel
theorem d_X4_horizon_6 : decode cX4_horizon 6 = .ok (.getfield 116, 3) := by decide +kernel
theorem d_X4_horizon_9 : decode cX4_horizon 9 = .ok (.iconst 2, 1) := by decide +kernel
theorem d_X4_horizon_10 : decode cX4_horizon 10 = .ok (.iaload, 1) := by decide +kernel
theorem d_X4_horizon_11 : decode cX4_horizon 11 = .ok (.invokestatic 119, 3) := by decide +kernel
theorem d_X4_horizon_14 : decode cX4_horizon 14 = .ok (.ireturn, 1) := by decide +kernel
theorem d_X4_canEndAt_0 : decode cX4_canEndAt 0 = .ok (.iload_n 1, 1) := by decide +kernel
theorem d_X4_canEndAt_1 : decode cX4_canEndAt 1 = .ok (.aload_n 0, 1) := by decide +kernel
theorem d_X4_canEndAt_2 : decode cX4_canEndAt 2 = .ok (.getfield 73, 3) := by decide +kernel
theorem d_X4_canEndAt_5 : decode cX4_canEndAt 5 = .ok (.if_icmp .ne 15, 3) := by decide +kernel
theorem d_X4_canEndAt_8 : decode cX4_canEndAt 8 = .ok (.iload_n 2, 1) := by decide +kernel
theorem d_X4_canEndAt_9 : decode cX4_canEndAt 9 = .ok (.aload_n 0, 1) := by decide +kernel
theorem d_X4_canEndAt_10 : decode cX4_canEndAt 10 = .ok (.getfield 94, 3) := by decide +kernel
theorem d_X4_canEndAt_13 : decode cX4_canEndAt 13 = .ok (.if_icmp .le 7, 3) := by decide +kernel
theorem d_X4_canEndAt_16 : decode cX4_canEndAt 16 = .ok (.iconst 1, 1) := by decide +kernel
theorem d_X4_canEndAt_17 : decode cX4_canEndAt 17 = .ok (.goto 4, 3) := by decide +kernel
theorem d_X4_canEndAt_20 : decode cX4_canEndAt 20 = .ok (.iconst 0, 1) := by decide +kernel
theorem d_X4_canEndAt_21 : decode cX4_canEndAt 21 = .ok (.ireturn, 1) := by decide +kernel
theorem d_X4_canStep_0 : decode cX4_canStep 0 = .ok (.aload_n 0, 1) := by decide +kernel
theorem d_X4_canStep_1 : decode cX4_canStep 1 = .ok (.getfield 9, 3) := by decide +kernel
theorem d_X4_canStep_4 : decode cX4_canStep 4 = .ok (.iload_n 2, 1) := by decide +kernel
theorem d_X4_canStep_5 : decode cX4_canStep 5 = .ok (.invokevirtual 91, 3) := by decide +kernel
theorem d_X4_canStep_8 : decode cX4_canStep 8 = .ok (.ifCond .eq 12, 3) := by decide +kernel
theorem d_X4_canStep_11 : decode cX4_canStep 11 = .ok (.aload_n 0, 1) := by decide +kernel
theorem d_X4_canStep_12 : decode cX4_canStep 12 = .ok (.iload_n 2, 1) := by decide +kernel
theorem d_X4_canStep_13 : decode cX4_canStep 13 = .ok (.iload_n 3, 1) := by decide +kernel
theorem d_X4_canStep_14 : decode cX4_canStep 14 = .ok (.invokevirtual 122, 3) := by decide +kernel
theorem d_X4_canStep_17 : decode cX4_canStep 17 = .ok (.ifCond .eq 5, 3) := by decide +kernel
theorem d_X4_canStep_20 : decode cX4_canStep 20 = .ok (.iconst 0, 1) := by decide +kernel
theorem d_X4_canStep_21 : decode cX4_canStep 21 = .ok (.ireturn, 1) := by decide +kernel
theorem d_X4_canStep_22 : decode cX4_canStep 22 = .ok (.iload_n 1, 1) := by decide +kernel
theorem d_X4_canStep_23 : decode cX4_canStep 23 = .ok (.iload_n 2, 1) := by decide +kernel
theorem d_X4_canStep_24 : decode cX4_canStep 24 = .ok (.if_icmp .eq 24, 3) := by decide +kernel
theorem d_X4_canStep_27 : decode cX4_canStep 27 = .ok (.aload_n 0, 1) := by decide +kernel
theorem d_X4_canStep_28 : decode cX4_canStep 28 = .ok (.iload_n 2, 1) := by decide +kernel
theorem d_X4_canStep_29 : decode cX4_canStep 29 = .ok (.iload_n 3, 1) := by decide +kernel
theorem d_X4_canStep_30 : decode cX4_canStep 30 = .ok (.iconst 1, 1) := by decide +kernel
theorem d_X4_canStep_31 : decode cX4_canStep 31 = .ok (.isub, 1) := by decide +kernel
theorem d_X4_canStep_32 : decode cX4_canStep 32 = .ok (.invokevirtual 122, 3) := by decide +kernel
theorem d_X4_canStep_35 : decode cX4_canStep 35 = .ok (.ifCond .eq 13, 3) := by decide +kernel
theorem d_X4_canStep_38 : decode cX4_canStep 38 = .ok (.aload_n 0, 1) := by decide +kernel
theorem d_X4_canStep_39 : decode cX4_canStep 39 = .ok (.iload_n 1, 1) := by decide +kernel
theorem d_X4_canStep_40 : decode cX4_canStep 40 = .ok (.iload_n 2, 1) := by decide +kernel
theorem d_X4_canStep_41 : decode cX4_canStep 41 = .ok (.iload_n 3, 1) := by decide +kernel
theorem d_X4_canStep_42 : decode cX4_canStep 42 = .ok (.invokevirtual 125, 3) := by decide +kernel
theorem d_X4_canStep_45 : decode cX4_canStep 45 = .ok (.ifCond .ne 7, 3) := by decide +kernel
theorem d_X4_canStep_48 : decode cX4_canStep 48 = .ok (.iconst 1, 1) := by decide +kernel
theorem d_X4_canStep_49 : decode cX4_canStep 49 = .ok (.goto 4, 3) := by decide +kernel
theorem d_X4_canStep_52 : decode cX4_canStep 52 = .ok (.iconst 0, 1) := by decide +kernel
theorem d_X4_canStep_53 : decode cX4_canStep 53 = .ok (.ireturn, 1) := by decide +kernel
theorem d_X4_isTaken_0 : decode cX4_isTaken 0 = .ok (.iload_n 2, 1) := by decide +kernel
theorem d_X4_isTaken_1 : decode cX4_isTaken 1 = .ok (.ifCond .lt 31, 3) := by decide +kernel
theorem d_X4_isTaken_4 : decode cX4_isTaken 4 = .ok (.iload_n 2, 1) := by decide +kernel
theorem d_X4_isTaken_5 : decode cX4_isTaken 5 = .ok (.aload_n 0, 1) := by decide +kernel
theorem d_X4_isTaken_6 : decode cX4_isTaken 6 = .ok (.getfield 22, 3) := by decide +kernel
theorem d_X4_isTaken_9 : decode cX4_isTaken 9 = .ok (.arraylength, 1) := by decide +kernel
theorem d_X4_isTaken_10 : decode cX4_isTaken 10 = .ok (.if_icmp .ge 22, 3) := by decide +kernel
theorem d_X4_isTaken_13 : decode cX4_isTaken 13 = .ok (.aload_n 0, 1) := by decide +kernel
theorem d_X4_isTaken_14 : decode cX4_isTaken 14 = .ok (.getfield 22, 3) := by decide +kernel
theorem d_X4_isTaken_17 : decode cX4_isTaken 17 = .ok (.iload_n 2, 1) := by decide +kernel
theorem d_X4_isTaken_18 : decode cX4_isTaken 18 = .ok (.laload, 1) := by decide +kernel
theorem d_X4_isTaken_19 : decode cX4_isTaken 19 = .ok (.iload_n 1, 1) := by decide +kernel
theorem d_X4_isTaken_20 : decode cX4_isTaken 20 = .ok (.lushr, 1) := by decide +kernel
theorem d_X4_isTaken_21 : decode cX4_isTaken 21 = .ok (.lconst 1, 1) := by decide +kernel
theorem d_X4_isTaken_22 : decode cX4_isTaken 22 = .ok (.land, 1) := by decide +kernel
theorem d_X4_isTaken_23 : decode cX4_isTaken 23 = .ok (.lconst 0, 1) := by decide +kernel
theorem d_X4_isTaken_24 : decode cX4_isTaken 24 = .ok (.lcmp, 1) := by decide +kernel
theorem d_X4_isTaken_25 : decode cX4_isTaken 25 = .ok (.ifCond .eq 7, 3) := by decide +kernel
theorem d_X4_isTaken_28 : decode cX4_isTaken 28 = .ok (.iconst 1, 1) := by decide +kernel
theorem d_X4_isTaken_29 : decode cX4_isTaken 29 = .ok (.goto 4, 3) := by decide +kernel
theorem d_X4_isTaken_32 : decode cX4_isTaken 32 = .ok (.iconst 0, 1) := by decide +kernel
theorem d_X4_isTaken_33 : decode cX4_isTaken 33 = .ok (.ireturn, 1) := by decide +kernel
theorem d_X4_changesPlaces_0 : decode cX4_changesPlaces 0 = .ok (.iconst 0, 1) := by decide +kernel
theorem d_X4_changesPlaces_1 : decode cX4_changesPlaces 1 = .ok (.istore 4, 2) := by decide +kernel
theorem d_X4_changesPlaces_3 : decode cX4_changesPlaces 3 = .ok (.aload_n 0, 1) := by decide +kernel
theorem d_X4_changesPlaces_4 : decode cX4_changesPlaces 4 = .ok (.getfield 9, 3) := by decide +kernel
theorem d_X4_changesPlaces_7 : decode cX4_changesPlaces 7 = .ok (.iload 4, 2) := by decide +kernel
theorem d_X4_changesPlaces_9 : decode cX4_changesPlaces 9 = .ok (.invokevirtual 88, 3) := by decide +kernel
theorem d_X4_changesPlaces_12 : decode cX4_changesPlaces 12 = .ok (.ifCond .eq 61, 3) := by decide +kernel
theorem d_X4_changesPlaces_15 : decode cX4_changesPlaces 15 = .ok (.iload 4, 2) := by decide +kernel
theorem d_X4_changesPlaces_17 : decode cX4_changesPlaces 17 = .ok (.bipush 6, 2) := by decide +kernel
theorem d_X4_changesPlaces_19 : decode cX4_changesPlaces 19 = .ok (.if_icmp .ge 54, 3) := by decide +kernel
theorem d_X4_changesPlaces_22 : decode cX4_changesPlaces 22 = .ok (.aload_n 0, 1) := by decide +kernel
theorem d_X4_changesPlaces_23 : decode cX4_changesPlaces 23 = .ok (.getfield 9, 3) := by decide +kernel
theorem d_X4_changesPlaces_26 : decode cX4_changesPlaces 26 = .ok (.getfield 43, 3) := by decide +kernel
theorem d_X4_changesPlaces_29 : decode cX4_changesPlaces 29 = .ok (.iload 4, 2) := by decide +kernel
theorem d_X4_changesPlaces_31 : decode cX4_changesPlaces 31 = .ok (.aaload, 1) := by decide +kernel
theorem d_X4_changesPlaces_32 : decode cX4_changesPlaces 32 = .ok (.astore 5, 2) := by decide +kernel
theorem d_X4_changesPlaces_34 : decode cX4_changesPlaces 34 = .ok (.iload 4, 2) := by decide +kernel
theorem d_X4_changesPlaces_36 : decode cX4_changesPlaces 36 = .ok (.aload_n 0, 1) := by decide +kernel
theorem d_X4_changesPlaces_37 : decode cX4_changesPlaces 37 = .ok (.getfield 49, 3) := by decide +kernel
theorem d_X4_changesPlaces_40 : decode cX4_changesPlaces 40 = .ok (.if_icmp .eq 27, 3) := by decide +kernel
theorem d_X4_changesPlaces_43 : decode cX4_changesPlaces 43 = .ok (.aload 5, 2) := by decide +kernel
theorem d_X4_changesPlaces_45 : decode cX4_changesPlaces 45 = .ok (.iload_n 3, 1) := by decide +kernel
theorem d_X4_changesPlaces_46 : decode cX4_changesPlaces 46 = .ok (.iconst 1, 1) := by decide +kernel
theorem d_X4_changesPlaces_47 : decode cX4_changesPlaces 47 = .ok (.isub, 1) := by decide +kernel
theorem d_X4_changesPlaces_48 : decode cX4_changesPlaces 48 = .ok (.invokevirtual 104, 3) := by decide +kernel
theorem d_X4_changesPlaces_51 : decode cX4_changesPlaces 51 = .ok (.iload_n 2, 1) := by decide +kernel
theorem d_X4_changesPlaces_52 : decode cX4_changesPlaces 52 = .ok (.if_icmp .ne 15, 3) := by decide +kernel
theorem d_X4_changesPlaces_55 : decode cX4_changesPlaces 55 = .ok (.aload 5, 2) := by decide +kernel
theorem d_X4_changesPlaces_57 : decode cX4_changesPlaces 57 = .ok (.iload_n 3, 1) := by decide +kernel
theorem d_X4_changesPlaces_58 : decode cX4_changesPlaces 58 = .ok (.invokevirtual 104, 3) := by decide +kernel
theorem d_X4_changesPlaces_61 : decode cX4_changesPlaces 61 = .ok (.iload_n 1, 1) := by decide +kernel
theorem d_X4_changesPlaces_62 : decode cX4_changesPlaces 62 = .ok (.if_icmp .ne 5, 3) := by decide +kernel
theorem d_X4_changesPlaces_65 : decode cX4_changesPlaces 65 = .ok (.iconst 1, 1) := by decide +kernel
theorem d_X4_changesPlaces_66 : decode cX4_changesPlaces 66 = .ok (.ireturn, 1) := by decide +kernel
theorem d_X4_changesPlaces_67 : decode cX4_changesPlaces 67 = .ok (.iinc 4 1, 3) := by decide +kernel
theorem d_X4_changesPlaces_70 : decode cX4_changesPlaces 70 = .ok (.goto (-67), 3) := by decide +kernel
theorem d_X4_changesPlaces_73 : decode cX4_changesPlaces 73 = .ok (.iconst 0, 1) := by decide +kernel
theorem d_X4_changesPlaces_74 : decode cX4_changesPlaces 74 = .ok (.ireturn, 1) := by decide +kernel
theorem d_X5_init_0 : decode cX5_init 0 = .ok (.aload_n 0, 1) := by decide +kernel
theorem d_X5_init_1 : decode cX5_init 1 = .ok (.invokespecial 3, 3) := by decide +kernel
theorem d_X5_init_4 : decode cX5_init 4 = .ok (.aload_n 0, 1) := by decide +kernel
theorem d_X5_init_5 : decode cX5_init 5 = .ok (.bipush 30, 2) := by decide +kernel
theorem d_X5_init_7 : decode cX5_init 7 = .ok (.newarray .int, 2) := by decide +kernel
theorem d_X5_init_9 : decode cX5_init 9 = .ok (.putfield 9, 3) := by decide +kernel
theorem d_X5_init_12 : decode cX5_init 12 = .ok (.aload_n 0, 1) := by decide +kernel
theorem d_X5_init_13 : decode cX5_init 13 = .ok (.iconst (-1), 1) := by decide +kernel
theorem d_X5_init_14 : decode cX5_init 14 = .ok (.putfield 15, 3) := by decide +kernel
theorem d_X5_init_17 : decode cX5_init 17 = .ok (.return_, 1) := by decide +kernel
theorem d_X5_begin_0 : decode cX5_begin 0 = .ok (.aload_n 0, 1) := by decide +kernel
theorem d_X5_begin_1 : decode cX5_begin 1 = .ok (.iload_n 1, 1) := by decide +kernel
theorem d_X5_begin_2 : decode cX5_begin 2 = .ok (.putfield 19, 3) := by decide +kernel
theorem d_X5_begin_5 : decode cX5_begin 5 = .ok (.aload_n 0, 1) := by decide +kernel
theorem d_X5_begin_6 : decode cX5_begin 6 = .ok (.iload_n 2, 1) := by decide +kernel
theorem d_X5_begin_7 : decode cX5_begin 7 = .ok (.putfield 22, 3) := by decide +kernel
theorem d_X5_begin_10 : decode cX5_begin 10 = .ok (.aload_n 0, 1) := by decide +kernel
theorem d_X5_begin_11 : decode cX5_begin 11 = .ok (.iconst (-1), 1) := by decide +kernel
theorem d_X5_begin_12 : decode cX5_begin 12 = .ok (.putfield 15, 3) := by decide +kernel
theorem d_X5_begin_15 : decode cX5_begin 15 = .ok (.aload_n 0, 1) := by decide +kernel
theorem d_X5_begin_16 : decode cX5_begin 16 = .ok (.iconst 0, 1) := by decide +kernel
theorem d_X5_begin_17 : decode cX5_begin 17 = .ok (.putfield 25, 3) := by decide +kernel
theorem d_X5_begin_20 : decode cX5_begin 20 = .ok (.aload_n 0, 1) := by decide +kernel
theorem d_X5_begin_21 : decode cX5_begin 21 = .ok (.iconst 0, 1) := by decide +kernel
theorem d_X5_begin_22 : decode cX5_begin 22 = .ok (.putfield 28, 3) := by decide +kernel
theorem d_X5_begin_25 : decode cX5_begin 25 = .ok (.aload_n 0, 1) := by decide +kernel
theorem d_X5_begin_26 : decode cX5_begin 26 = .ok (.iconst 0, 1) := by decide +kernel
theorem d_X5_begin_27 : decode cX5_begin 27 = .ok (.putfield 31, 3) := by decide +kernel
theorem d_X5_begin_30 : decode cX5_begin 30 = .ok (.return_, 1) := by decide +kernel
theorem d_X5_copyFrom_0 : decode cX5_copyFrom 0 = .ok (.aload_n 0, 1) := by decide +kernel
theorem d_X5_copyFrom_1 : decode cX5_copyFrom 1 = .ok (.aload_n 1, 1) := by decide +kernel
theorem d_X5_copyFrom_2 : decode cX5_copyFrom 2 = .ok (.getfield 19, 3) := by decide +kernel
theorem d_X5_copyFrom_5 : decode cX5_copyFrom 5 = .ok (.putfield 19, 3) := by decide +kernel
theorem d_X5_copyFrom_8 : decode cX5_copyFrom 8 = .ok (.aload_n 0, 1) := by decide +kernel
theorem d_X5_copyFrom_9 : decode cX5_copyFrom 9 = .ok (.aload_n 1, 1) := by decide +kernel
theorem d_X5_copyFrom_10 : decode cX5_copyFrom 10 = .ok (.getfield 22, 3) := by decide +kernel
theorem d_X5_copyFrom_13 : decode cX5_copyFrom 13 = .ok (.putfield 22, 3) := by decide +kernel
theorem d_X5_copyFrom_16 : decode cX5_copyFrom 16 = .ok (.aload_n 0, 1) := by decide +kernel
theorem d_X5_copyFrom_17 : decode cX5_copyFrom 17 = .ok (.aload_n 1, 1) := by decide +kernel
theorem d_X5_copyFrom_18 : decode cX5_copyFrom 18 = .ok (.getfield 15, 3) := by decide +kernel
theorem d_X5_copyFrom_21 : decode cX5_copyFrom 21 = .ok (.putfield 15, 3) := by decide +kernel
theorem d_X5_copyFrom_24 : decode cX5_copyFrom 24 = .ok (.aload_n 0, 1) := by decide +kernel
theorem d_X5_copyFrom_25 : decode cX5_copyFrom 25 = .ok (.aload_n 1, 1) := by decide +kernel
theorem d_X5_copyFrom_26 : decode cX5_copyFrom 26 = .ok (.getfield 25, 3) := by decide +kernel
theorem d_X5_copyFrom_29 : decode cX5_copyFrom 29 = .ok (.putfield 25, 3) := by decide +kernel
theorem d_X5_copyFrom_32 : decode cX5_copyFrom 32 = .ok (.aload_n 0, 1) := by decide +kernel
theorem d_X5_copyFrom_33 : decode cX5_copyFrom 33 = .ok (.aload_n 1, 1) := by decide +kernel
theorem d_X5_copyFrom_34 : decode cX5_copyFrom 34 = .ok (.getfield 28, 3) := by decide +kernel
theorem d_X5_copyFrom_37 : decode cX5_copyFrom 37 = .ok (.putfield 28, 3) := by decide +kernel
theorem d_X5_copyFrom_40 : decode cX5_copyFrom 40 = .ok (.aload_n 0, 1) := by decide +kernel
theorem d_X5_copyFrom_41 : decode cX5_copyFrom 41 = .ok (.aload_n 1, 1) := by decide +kernel
theorem d_X5_copyFrom_42 : decode cX5_copyFrom 42 = .ok (.getfield 31, 3) := by decide +kernel
theorem d_X5_copyFrom_45 : decode cX5_copyFrom 45 = .ok (.putfield 31, 3) := by decide +kernel
theorem d_X5_copyFrom_48 : decode cX5_copyFrom 48 = .ok (.aload_n 1, 1) := by decide +kernel
theorem d_X5_copyFrom_49 : decode cX5_copyFrom 49 = .ok (.getfield 9, 3) := by decide +kernel
theorem d_X5_copyFrom_52 : decode cX5_copyFrom 52 = .ok (.iconst 0, 1) := by decide +kernel
theorem d_X5_copyFrom_53 : decode cX5_copyFrom 53 = .ok (.aload_n 0, 1) := by decide +kernel
theorem d_X5_copyFrom_54 : decode cX5_copyFrom 54 = .ok (.getfield 9, 3) := by decide +kernel
theorem d_X5_copyFrom_57 : decode cX5_copyFrom 57 = .ok (.iconst 0, 1) := by decide +kernel
theorem d_X5_copyFrom_58 : decode cX5_copyFrom 58 = .ok (.bipush 30, 2) := by decide +kernel
theorem d_X5_copyFrom_60 : decode cX5_copyFrom 60 = .ok (.invokestatic 34, 3) := by decide +kernel
theorem d_X5_copyFrom_63 : decode cX5_copyFrom 63 = .ok (.return_, 1) := by decide +kernel
theorem d_X5_follow_0 : decode cX5_follow 0 = .ok (.iconst 0, 1) := by decide +kernel
theorem d_X5_follow_1 : decode cX5_follow 1 = .ok (.istore 4, 2) := by decide +kernel
theorem d_X5_follow_3 : decode cX5_follow 3 = .ok (.iload 4, 2) := by decide +kernel
theorem d_X5_follow_5 : decode cX5_follow 5 = .ok (.iload_n 2, 1) := by decide +kernel
theorem d_X5_follow_6 : decode cX5_follow 6 = .ok (.if_icmp .ge 37, 3) := by decide +kernel
theorem d_X5_follow_9 : decode cX5_follow 9 = .ok (.iload 4, 2) := by decide +kernel
theorem d_X5_follow_11 : decode cX5_follow 11 = .ok (.aload_n 1, 1) := by decide +kernel
theorem d_X5_follow_12 : decode cX5_follow 12 = .ok (.arraylength, 1) := by decide +kernel
theorem d_X5_follow_13 : decode cX5_follow 13 = .ok (.if_icmp .ge 30, 3) := by decide +kernel
theorem d_X5_follow_16 : decode cX5_follow 16 = .ok (.iload 4, 2) := by decide +kernel
theorem d_X5_follow_18 : decode cX5_follow 18 = .ok (.aload_n 0, 1) := by decide +kernel
theorem d_X5_follow_19 : decode cX5_follow 19 = .ok (.getfield 9, 3) := by decide +kernel
theorem d_X5_follow_22 : decode cX5_follow 22 = .ok (.arraylength, 1) := by decide +kernel
theorem d_X5_follow_23 : decode cX5_follow 23 = .ok (.if_icmp .ge 20, 3) := by decide +kernel
theorem d_X5_follow_26 : decode cX5_follow 26 = .ok (.aload_n 0, 1) := by decide +kernel
theorem d_X5_follow_27 : decode cX5_follow 27 = .ok (.getfield 9, 3) := by decide +kernel
theorem d_X5_follow_30 : decode cX5_follow 30 = .ok (.iload 4, 2) := by decide +kernel
theorem d_X5_follow_32 : decode cX5_follow 32 = .ok (.aload_n 1, 1) := by decide +kernel
theorem d_X5_follow_33 : decode cX5_follow 33 = .ok (.iload 4, 2) := by decide +kernel
theorem d_X5_follow_35 : decode cX5_follow 35 = .ok (.iaload, 1) := by decide +kernel
theorem d_X5_follow_36 : decode cX5_follow 36 = .ok (.iastore, 1) := by decide +kernel
theorem d_X5_follow_37 : decode cX5_follow 37 = .ok (.iinc 4 1, 3) := by decide +kernel
theorem d_X5_follow_40 : decode cX5_follow 40 = .ok (.goto (-37), 3) := by decide +kernel
theorem d_X5_follow_43 : decode cX5_follow 43 = .ok (.aload_n 0, 1) := by decide +kernel
theorem d_X5_follow_44 : decode cX5_follow 44 = .ok (.iload_n 2, 1) := by decide +kernel
theorem d_X5_follow_45 : decode cX5_follow 45 = .ok (.putfield 28, 3) := by decide +kernel
theorem d_X5_follow_48 : decode cX5_follow 48 = .ok (.aload_n 0, 1) := by decide +kernel
theorem d_X5_follow_49 : decode cX5_follow 49 = .ok (.iload_n 3, 1) := by decide +kernel
theorem d_X5_follow_50 : decode cX5_follow 50 = .ok (.putfield 31, 3) := by decide +kernel
theorem d_X5_follow_53 : decode cX5_follow 53 = .ok (.return_, 1) := by decide +kernel
theorem d_X5_cellAhead_0 : decode cX5_cellAhead 0 = .ok (.iload_n 1, 1) := by decide +kernel
theorem d_X5_cellAhead_1 : decode cX5_cellAhead 1 = .ok (.aload_n 0, 1) := by decide +kernel
theorem d_X5_cellAhead_2 : decode cX5_cellAhead 2 = .ok (.getfield 28, 3) := by decide +kernel
theorem d_X5_cellAhead_5 : decode cX5_cellAhead 5 = .ok (.if_icmp .ge 7, 3) := by decide +kernel
theorem d_X5_cellAhead_8 : decode cX5_cellAhead 8 = .ok (.iload_n 1, 1) := by decide +kernel
theorem d_X5_cellAhead_9 : decode cX5_cellAhead 9 = .ok (.goto 7, 3) := by decide +kernel
theorem d_X5_cellAhead_12 : decode cX5_cellAhead 12 = .ok (.aload_n 0, 1) := by decide +kernel
theorem d_X5_cellAhead_13 : decode cX5_cellAhead 13 = .ok (.getfield 28, 3) := by decide +kernel
theorem d_X5_cellAhead_16 : decode cX5_cellAhead 16 = .ok (.iconst 1, 1) := by decide +kernel
theorem d_X5_cellAhead_17 : decode cX5_cellAhead 17 = .ok (.isub, 1) := by decide +kernel
theorem d_X5_cellAhead_18 : decode cX5_cellAhead 18 = .ok (.istore_n 2, 1) := by decide +kernel
theorem d_X5_cellAhead_19 : decode cX5_cellAhead 19 = .ok (.iload_n 2, 1) := by decide +kernel
theorem d_X5_cellAhead_20 : decode cX5_cellAhead 20 = .ok (.ifCond .lt 12, 3) := by decide +kernel
theorem d_X5_cellAhead_23 : decode cX5_cellAhead 23 = .ok (.iload_n 2, 1) := by decide +kernel
theorem d_X5_cellAhead_24 : decode cX5_cellAhead 24 = .ok (.aload_n 0, 1) := by decide +kernel
theorem d_X5_cellAhead_25 : decode cX5_cellAhead 25 = .ok (.getfield 9, 3) := by decide +kernel
theorem d_X5_cellAhead_28 : decode cX5_cellAhead 28 = .ok (.arraylength, 1) := by decide +kernel
theorem d_X5_cellAhead_29 : decode cX5_cellAhead 29 = .ok (.if_icmp .lt 10, 3) := by decide +kernel
theorem d_X5_cellAhead_32 : decode cX5_cellAhead 32 = .ok (.aload_n 0, 1) := by decide +kernel
theorem d_X5_cellAhead_33 : decode cX5_cellAhead 33 = .ok (.getfield 19, 3) := by decide +kernel
theorem d_X5_cellAhead_36 : decode cX5_cellAhead 36 = .ok (.goto 9, 3) := by decide +kernel
theorem d_X5_cellAhead_39 : decode cX5_cellAhead 39 = .ok (.aload_n 0, 1) := by decide +kernel
theorem d_X5_cellAhead_40 : decode cX5_cellAhead 40 = .ok (.getfield 9, 3) := by decide +kernel
theorem d_X5_cellAhead_43 : decode cX5_cellAhead 43 = .ok (.iload_n 2, 1) := by decide +kernel
theorem d_X5_cellAhead_44 : decode cX5_cellAhead 44 = .ok (.iaload, 1) := by decide +kernel
theorem d_X5_cellAhead_45 : decode cX5_cellAhead 45 = .ok (.ireturn, 1) := by decide +kernel
theorem d_X5_lastCell_0 : decode cX5_lastCell 0 = .ok (.aload_n 0, 1) := by decide +kernel
theorem d_X5_lastCell_1 : decode cX5_lastCell 1 = .ok (.aload_n 0, 1) := by decide +kernel
theorem d_X5_lastCell_2 : decode cX5_lastCell 2 = .ok (.getfield 28, 3) := by decide +kernel
theorem d_X5_lastCell_5 : decode cX5_lastCell 5 = .ok (.invokevirtual 40, 3) := by decide +kernel
theorem d_X5_lastCell_8 : decode cX5_lastCell 8 = .ok (.ireturn, 1) := by decide +kernel
theorem d_X5_isEverIn_0 : decode cX5_isEverIn 0 = .ok (.iconst 0, 1) := by decide +kernel
theorem d_X5_isEverIn_1 : decode cX5_isEverIn 1 = .ok (.istore_n 2, 1) := by decide +kernel
theorem d_X5_isEverIn_2 : decode cX5_isEverIn 2 = .ok (.iload_n 2, 1) := by decide +kernel
theorem d_X5_isEverIn_3 : decode cX5_isEverIn 3 = .ok (.aload_n 0, 1) := by decide +kernel
theorem d_X5_isEverIn_4 : decode cX5_isEverIn 4 = .ok (.getfield 28, 3) := by decide +kernel
theorem d_X5_isEverIn_7 : decode cX5_isEverIn 7 = .ok (.if_icmp .gt 20, 3) := by decide +kernel
theorem d_X5_isEverIn_10 : decode cX5_isEverIn 10 = .ok (.aload_n 0, 1) := by decide +kernel
theorem d_X5_isEverIn_11 : decode cX5_isEverIn 11 = .ok (.iload_n 2, 1) := by decide +kernel
theorem d_X5_isEverIn_12 : decode cX5_isEverIn 12 = .ok (.invokevirtual 40, 3) := by decide +kernel
theorem d_X5_isEverIn_15 : decode cX5_isEverIn 15 = .ok (.iload_n 1, 1) := by decide +kernel
theorem d_X5_isEverIn_16 : decode cX5_isEverIn 16 = .ok (.if_icmp .ne 5, 3) := by decide +kernel
theorem d_X5_isEverIn_19 : decode cX5_isEverIn 19 = .ok (.iconst 1, 1) := by decide +kernel
theorem d_X5_isEverIn_20 : decode cX5_isEverIn 20 = .ok (.ireturn, 1) := by decide +kernel
theorem d_X5_isEverIn_21 : decode cX5_isEverIn 21 = .ok (.iinc 2 1, 3) := by decide +kernel
theorem d_X5_isEverIn_24 : decode cX5_isEverIn 24 = .ok (.goto (-22), 3) := by decide +kernel
theorem d_X5_isEverIn_27 : decode cX5_isEverIn 27 = .ok (.iconst 0, 1) := by decide +kernel
theorem d_X5_isEverIn_28 : decode cX5_isEverIn 28 = .ok (.ireturn, 1) := by decide +kernel
theorem d_X5_lastTickIn_0 : decode cX5_lastTickIn 0 = .ok (.aload_n 0, 1) := by decide +kernel
theorem d_X5_lastTickIn_1 : decode cX5_lastTickIn 1 = .ok (.invokevirtual 44, 3) := by decide +kernel
theorem d_X5_lastTickIn_4 : decode cX5_lastTickIn 4 = .ok (.iload_n 1, 1) := by decide +kernel
theorem d_X5_lastTickIn_5 : decode cX5_lastTickIn 5 = .ok (.if_icmp .ne 6, 3) := by decide +kernel
theorem d_X5_lastTickIn_8 : decode cX5_lastTickIn 8 = .ok (.bipush 30, 2) := by decide +kernel
theorem d_X5_lastTickIn_10 : decode cX5_lastTickIn 10 = .ok (.ireturn, 1) := by decide +kernel
theorem d_X5_lastTickIn_11 : decode cX5_lastTickIn 11 = .ok (.aload_n 0, 1) := by decide +kernel
theorem d_X5_lastTickIn_12 : decode cX5_lastTickIn 12 = .ok (.getfield 28, 3) := by decide +kernel
theorem d_X5_lastTickIn_15 : decode cX5_lastTickIn 15 = .ok (.istore_n 2, 1) := by decide +kernel
theorem d_X5_lastTickIn_16 : decode cX5_lastTickIn 16 = .ok (.iload_n 2, 1) := by decide +kernel
theorem d_X5_lastTickIn_17 : decode cX5_lastTickIn 17 = .ok (.ifCond .lt 20, 3) := by decide +kernel
theorem d_X5_lastTickIn_20 : decode cX5_lastTickIn 20 = .ok (.aload_n 0, 1) := by decide +kernel
theorem d_X5_lastTickIn_21 : decode cX5_lastTickIn 21 = .ok (.iload_n 2, 1) := by decide +kernel
theorem d_X5_lastTickIn_22 : decode cX5_lastTickIn 22 = .ok (.invokevirtual 40, 3) := by decide +kernel
theorem d_X5_lastTickIn_25 : decode cX5_lastTickIn 25 = .ok (.iload_n 1, 1) := by decide +kernel
theorem d_X5_lastTickIn_26 : decode cX5_lastTickIn 26 = .ok (.if_icmp .ne 5, 3) := by decide +kernel
theorem d_X5_lastTickIn_29 : decode cX5_lastTickIn 29 = .ok (.iload_n 2, 1) := by decide +kernel
theorem d_X5_lastTickIn_30 : decode cX5_lastTickIn 30 = .ok (.ireturn, 1) := by decide +kernel
theorem d_X5_lastTickIn_31 : decode cX5_lastTickIn 31 = .ok (.iinc 2 (-1), 3) := by decide +kernel
theorem d_X5_lastTickIn_34 : decode cX5_lastTickIn 34 = .ok (.goto (-18), 3) := by decide +kernel
theorem d_X5_lastTickIn_37 : decode cX5_lastTickIn 37 = .ok (.iconst (-1), 1) := by decide +kernel
theorem d_X5_lastTickIn_38 : decode cX5_lastTickIn 38 = .ok (.ireturn, 1) := by decide +kernel
theorem d_X5_goOn_0 : decode cX5_goOn 0 = .ok (.aload_n 0, 1) := by decide +kernel
theorem d_X5_goOn_1 : decode cX5_goOn 1 = .ok (.iconst 1, 1) := by decide +kernel
theorem d_X5_goOn_2 : decode cX5_goOn 2 = .ok (.invokevirtual 40, 3) := by decide +kernel
theorem d_X5_goOn_5 : decode cX5_goOn 5 = .ok (.istore_n 1, 1) := by decide +kernel
theorem d_X5_goOn_6 : decode cX5_goOn 6 = .ok (.iload_n 1, 1) := by decide +kernel
theorem d_X5_goOn_7 : decode cX5_goOn 7 = .ok (.aload_n 0, 1) := by decide +kernel
theorem d_X5_goOn_8 : decode cX5_goOn 8 = .ok (.getfield 19, 3) := by decide +kernel
theorem d_X5_goOn_11 : decode cX5_goOn 11 = .ok (.if_icmp .eq 31, 3) := by decide +kernel
theorem d_X5_goOn_14 : decode cX5_goOn 14 = .ok (.aload_n 0, 1) := by decide +kernel
theorem d_X5_goOn_15 : decode cX5_goOn 15 = .ok (.iload_n 1, 1) := by decide +kernel
theorem d_X5_goOn_16 : decode cX5_goOn 16 = .ok (.putfield 19, 3) := by decide +kernel
theorem d_X5_goOn_19 : decode cX5_goOn 19 = .ok (.aload_n 0, 1) := by decide +kernel
theorem d_X5_goOn_20 : decode cX5_goOn 20 = .ok (.dup, 1) := by decide +kernel
theorem d_X5_goOn_21 : decode cX5_goOn 21 = .ok (.getfield 22, 3) := by decide +kernel
theorem d_X5_goOn_24 : decode cX5_goOn 24 = .ok (.aload_n 0, 1) := by decide +kernel
theorem d_X5_goOn_25 : decode cX5_goOn 25 = .ok (.getfield 31, 3) := by decide +kernel
theorem d_X5_goOn_28 : decode cX5_goOn 28 = .ok (.isub, 1) := by decide +kernel
theorem d_X5_goOn_29 : decode cX5_goOn 29 = .ok (.putfield 22, 3) := by decide +kernel
theorem d_X5_goOn_32 : decode cX5_goOn 32 = .ok (.aload_n 0, 1) := by decide +kernel
theorem d_X5_goOn_33 : decode cX5_goOn 33 = .ok (.dup, 1) := by decide +kernel
theorem d_X5_goOn_34 : decode cX5_goOn 34 = .ok (.getfield 25, 3) := by decide +kernel
theorem d_X5_goOn_37 : decode cX5_goOn 37 = .ok (.iconst 1, 1) := by decide +kernel
theorem d_X5_goOn_38 : decode cX5_goOn 38 = .ok (.iadd, 1) := by decide +kernel
theorem d_X5_goOn_39 : decode cX5_goOn 39 = .ok (.putfield 25, 3) := by decide +kernel
theorem d_X5_goOn_42 : decode cX5_goOn 42 = .ok (.aload_n 0, 1) := by decide +kernel
theorem d_X5_goOn_43 : decode cX5_goOn 43 = .ok (.dup, 1) := by decide +kernel
theorem d_X5_goOn_44 : decode cX5_goOn 44 = .ok (.getfield 28, 3) := by decide +kernel
theorem d_X5_goOn_47 : decode cX5_goOn 47 = .ok (.iconst 1, 1) := by decide +kernel
theorem d_X5_goOn_48 : decode cX5_goOn 48 = .ok (.isub, 1) := by decide +kernel
theorem d_X5_goOn_49 : decode cX5_goOn 49 = .ok (.putfield 28, 3) := by decide +kernel
theorem d_X5_goOn_52 : decode cX5_goOn 52 = .ok (.iconst 0, 1) := by decide +kernel
theorem d_X5_goOn_53 : decode cX5_goOn 53 = .ok (.istore_n 2, 1) := by decide +kernel
theorem d_X5_goOn_54 : decode cX5_goOn 54 = .ok (.iload_n 2, 1) := by decide +kernel
theorem d_X5_goOn_55 : decode cX5_goOn 55 = .ok (.aload_n 0, 1) := by decide +kernel
theorem d_X5_goOn_56 : decode cX5_goOn 56 = .ok (.getfield 28, 3) := by decide +kernel
theorem d_X5_goOn_59 : decode cX5_goOn 59 = .ok (.if_icmp .ge 34, 3) := by decide +kernel
theorem d_X5_goOn_62 : decode cX5_goOn 62 = .ok (.iload_n 2, 1) := by decide +kernel
theorem d_X5_goOn_63 : decode cX5_goOn 63 = .ok (.iconst 1, 1) := by decide +kernel
theorem d_X5_goOn_64 : decode cX5_goOn 64 = .ok (.iadd, 1) := by decide +kernel
theorem d_X5_goOn_65 : decode cX5_goOn 65 = .ok (.aload_n 0, 1) := by decide +kernel
theorem d_X5_goOn_66 : decode cX5_goOn 66 = .ok (.getfield 9, 3) := by decide +kernel
theorem d_X5_goOn_69 : decode cX5_goOn 69 = .ok (.arraylength, 1) := by decide +kernel
theorem d_X5_goOn_70 : decode cX5_goOn 70 = .ok (.if_icmp .ge 23, 3) := by decide +kernel
theorem d_X5_goOn_73 : decode cX5_goOn 73 = .ok (.aload_n 0, 1) := by decide +kernel
theorem d_X5_goOn_74 : decode cX5_goOn 74 = .ok (.getfield 9, 3) := by decide +kernel
theorem d_X5_goOn_77 : decode cX5_goOn 77 = .ok (.iload_n 2, 1) := by decide +kernel
theorem d_X5_goOn_78 : decode cX5_goOn 78 = .ok (.aload_n 0, 1) := by decide +kernel
theorem d_X5_goOn_79 : decode cX5_goOn 79 = .ok (.getfield 9, 3) := by decide +kernel
theorem d_X5_goOn_82 : decode cX5_goOn 82 = .ok (.iload_n 2, 1) := by decide +kernel
theorem d_X5_goOn_83 : decode cX5_goOn 83 = .ok (.iconst 1, 1) := by decide +kernel
theorem d_X5_goOn_84 : decode cX5_goOn 84 = .ok (.iadd, 1) := by decide +kernel
theorem d_X5_goOn_85 : decode cX5_goOn 85 = .ok (.iaload, 1) := by decide +kernel
theorem d_X5_goOn_86 : decode cX5_goOn 86 = .ok (.iastore, 1) := by decide +kernel
theorem d_X5_goOn_87 : decode cX5_goOn 87 = .ok (.iinc 2 1, 3) := by decide +kernel
theorem d_X5_goOn_90 : decode cX5_goOn 90 = .ok (.goto (-36), 3) := by decide +kernel
theorem d_X5_goOn_93 : decode cX5_goOn 93 = .ok (.return_, 1) := by decide +kernel
theorem d_X5_charge_0 : decode cX5_charge 0 = .ok (.aload_n 0, 1) := by decide +kernel
theorem d_X5_charge_1 : decode cX5_charge 1 = .ok (.bipush 99, 2) := by decide +kernel
theorem d_X5_charge_3 : decode cX5_charge 3 = .ok (.aload_n 0, 1) := by decide +kernel
theorem d_X5_charge_4 : decode cX5_charge 4 = .ok (.getfield 22, 3) := by decide +kernel
theorem d_X5_charge_7 : decode cX5_charge 7 = .ok (.iload_n 1, 1) := by decide +kernel
theorem d_X5_charge_8 : decode cX5_charge 8 = .ok (.iadd, 1) := by decide +kernel
theorem d_X5_charge_9 : decode cX5_charge 9 = .ok (.invokestatic 48, 3) := by decide +kernel
theorem d_X5_charge_12 : decode cX5_charge 12 = .ok (.putfield 22, 3) := by decide +kernel
theorem d_X5_charge_15 : decode cX5_charge 15 = .ok (.return_, 1) := by decide +kernel
theorem d_X6_init_0 : decode cX6_init 0 = .ok (.aload_n 0, 1) := by decide +kernel
theorem d_X6_init_1 : decode cX6_init 1 = .ok (.invokespecial 3, 3) := by decide +kernel
theorem d_X6_init_4 : decode cX6_init 4 = .ok (.aload_n 0, 1) := by decide +kernel
theorem d_X6_init_5 : decode cX6_init 5 = .ok (.iconst 1, 1) := by decide +kernel
theorem d_X6_init_6 : decode cX6_init 6 = .ok (.putfield 9, 3) := by decide +kernel
theorem d_X6_init_9 : decode cX6_init 9 = .ok (.aload_n 0, 1) := by decide +kernel
theorem d_X6_init_10 : decode cX6_init 10 = .ok (.iconst 2, 1) := by decide +kernel
theorem d_X6_init_11 : decode cX6_init 11 = .ok (.putfield 15, 3) := by decide +kernel
theorem d_X6_init_14 : decode cX6_init 14 = .ok (.aload_n 0, 1) := by decide +kernel
theorem d_X6_init_15 : decode cX6_init 15 = .ok (.bipush 48, 2) := by decide +kernel
theorem d_X6_init_17 : decode cX6_init 17 = .ok (.newarray .int, 2) := by decide +kernel
theorem d_X6_init_19 : decode cX6_init 19 = .ok (.putfield 18, 3) := by decide +kernel
theorem d_X6_init_22 : decode cX6_init 22 = .ok (.aload_n 0, 1) := by decide +kernel
theorem d_X6_init_23 : decode cX6_init 23 = .ok (.bipush 48, 2) := by decide +kernel
theorem d_X6_init_25 : decode cX6_init 25 = .ok (.newarray .boolean, 2) := by decide +kernel
theorem d_X6_init_27 : decode cX6_init 27 = .ok (.putfield 22, 3) := by decide +kernel
theorem d_X6_init_30 : decode cX6_init 30 = .ok (.aload_n 0, 1) := by decide +kernel
theorem d_X6_init_31 : decode cX6_init 31 = .ok (.bipush 6, 2) := by decide +kernel
theorem d_X6_init_33 : decode cX6_init 33 = .ok (.anewarray 26, 3) := by decide +kernel
theorem d_X6_init_36 : decode cX6_init 36 = .ok (.putfield 28, 3) := by decide +kernel
theorem d_X6_init_39 : decode cX6_init 39 = .ok (.iconst 0, 1) := by decide +kernel
theorem d_X6_init_40 : decode cX6_init 40 = .ok (.istore_n 1, 1) := by decide +kernel
theorem d_X6_init_41 : decode cX6_init 41 = .ok (.iload_n 1, 1) := by decide +kernel
theorem d_X6_init_42 : decode cX6_init 42 = .ok (.aload_n 0, 1) := by decide +kernel
theorem d_X6_init_43 : decode cX6_init 43 = .ok (.getfield 28, 3) := by decide +kernel
theorem d_X6_init_46 : decode cX6_init 46 = .ok (.arraylength, 1) := by decide +kernel
theorem d_X6_init_47 : decode cX6_init 47 = .ok (.if_icmp .ge 22, 3) := by decide +kernel
theorem d_X6_init_50 : decode cX6_init 50 = .ok (.aload_n 0, 1) := by decide +kernel
theorem d_X6_init_51 : decode cX6_init 51 = .ok (.getfield 28, 3) := by decide +kernel
theorem d_X6_init_54 : decode cX6_init 54 = .ok (.iload_n 1, 1) := by decide +kernel
theorem d_X6_init_55 : decode cX6_init 55 = .ok (.new 26, 3) := by decide +kernel
theorem d_X6_init_58 : decode cX6_init 58 = .ok (.dup, 1) := by decide +kernel
theorem d_X6_init_59 : decode cX6_init 59 = .ok (.invokespecial 32, 3) := by decide +kernel
theorem d_X6_init_62 : decode cX6_init 62 = .ok (.aastore, 1) := by decide +kernel
theorem d_X6_init_63 : decode cX6_init 63 = .ok (.iinc 1 1, 3) := by decide +kernel
theorem d_X6_init_66 : decode cX6_init 66 = .ok (.goto (-25), 3) := by decide +kernel
theorem d_X6_init_69 : decode cX6_init 69 = .ok (.aload_n 0, 1) := by decide +kernel
theorem d_X6_init_70 : decode cX6_init 70 = .ok (.bipush 10, 2) := by decide +kernel
theorem d_X6_init_72 : decode cX6_init 72 = .ok (.anewarray 33, 3) := by decide +kernel
theorem d_X6_init_75 : decode cX6_init 75 = .ok (.putfield 35, 3) := by decide +kernel
theorem d_X6_init_78 : decode cX6_init 78 = .ok (.iconst 0, 1) := by decide +kernel
theorem d_X6_init_79 : decode cX6_init 79 = .ok (.istore_n 1, 1) := by decide +kernel
theorem d_X6_init_80 : decode cX6_init 80 = .ok (.iload_n 1, 1) := by decide +kernel
theorem d_X6_init_81 : decode cX6_init 81 = .ok (.aload_n 0, 1) := by decide +kernel
theorem d_X6_init_82 : decode cX6_init 82 = .ok (.getfield 35, 3) := by decide +kernel
theorem d_X6_init_85 : decode cX6_init 85 = .ok (.arraylength, 1) := by decide +kernel
theorem d_X6_init_86 : decode cX6_init 86 = .ok (.if_icmp .ge 22, 3) := by decide +kernel
theorem d_X6_init_89 : decode cX6_init 89 = .ok (.aload_n 0, 1) := by decide +kernel
theorem d_X6_init_90 : decode cX6_init 90 = .ok (.getfield 35, 3) := by decide +kernel
theorem d_X6_init_93 : decode cX6_init 93 = .ok (.iload_n 1, 1) := by decide +kernel
theorem d_X6_init_94 : decode cX6_init 94 = .ok (.new 33, 3) := by decide +kernel
theorem d_X6_init_97 : decode cX6_init 97 = .ok (.dup, 1) := by decide +kernel
theorem d_X6_init_98 : decode cX6_init 98 = .ok (.invokespecial 39, 3) := by decide +kernel
theorem d_X6_init_101 : decode cX6_init 101 = .ok (.aastore, 1) := by decide +kernel
theorem d_X6_init_102 : decode cX6_init 102 = .ok (.iinc 1 1, 3) := by decide +kernel
theorem d_X6_init_105 : decode cX6_init 105 = .ok (.goto (-25), 3) := by decide +kernel
theorem d_X6_init_108 : decode cX6_init 108 = .ok (.aload_n 0, 1) := by decide +kernel
theorem d_X6_init_109 : decode cX6_init 109 = .ok (.iconst 3, 1) := by decide +kernel
theorem d_X6_init_110 : decode cX6_init 110 = .ok (.newarray .int, 2) := by decide +kernel
theorem d_X6_init_112 : decode cX6_init 112 = .ok (.putfield 40, 3) := by decide +kernel
theorem d_X6_init_115 : decode cX6_init 115 = .ok (.getstatic 43, 3) := by decide +kernel
theorem d_X6_init_118 : decode cX6_init 118 = .ok (.iconst 0, 1) := by decide +kernel
theorem d_X6_init_119 : decode cX6_init 119 = .ok (.aload_n 0, 1) := by decide +kernel
theorem d_X6_init_120 : decode cX6_init 120 = .ok (.getfield 40, 3) := by decide +kernel
theorem d_X6_init_123 : decode cX6_init 123 = .ok (.iconst 0, 1) := by decide +kernel
theorem d_X6_init_124 : decode cX6_init 124 = .ok (.iconst 3, 1) := by decide +kernel
theorem d_X6_init_125 : decode cX6_init 125 = .ok (.invokestatic 46, 3) := by decide +kernel
theorem d_X6_init_128 : decode cX6_init 128 = .ok (.return_, 1) := by decide +kernel
theorem d_X6_copyFrom_0 : decode cX6_copyFrom 0 = .ok (.aload_n 0, 1) := by decide +kernel
theorem d_X6_copyFrom_1 : decode cX6_copyFrom 1 = .ok (.aload_n 1, 1) := by decide +kernel
theorem d_X6_copyFrom_2 : decode cX6_copyFrom 2 = .ok (.getfield 9, 3) := by decide +kernel
theorem d_X6_copyFrom_5 : decode cX6_copyFrom 5 = .ok (.putfield 9, 3) := by decide +kernel
theorem d_X6_copyFrom_8 : decode cX6_copyFrom 8 = .ok (.aload_n 0, 1) := by decide +kernel
theorem d_X6_copyFrom_9 : decode cX6_copyFrom 9 = .ok (.aload_n 1, 1) := by decide +kernel
theorem d_X6_copyFrom_10 : decode cX6_copyFrom 10 = .ok (.getfield 15, 3) := by decide +kernel
theorem d_X6_copyFrom_13 : decode cX6_copyFrom 13 = .ok (.putfield 15, 3) := by decide +kernel
theorem d_X6_copyFrom_16 : decode cX6_copyFrom 16 = .ok (.aload_n 0, 1) := by decide +kernel
theorem d_X6_copyFrom_17 : decode cX6_copyFrom 17 = .ok (.aload_n 1, 1) := by decide +kernel
theorem d_X6_copyFrom_18 : decode cX6_copyFrom 18 = .ok (.getfield 52, 3) := by decide +kernel
theorem d_X6_copyFrom_21 : decode cX6_copyFrom 21 = .ok (.putfield 52, 3) := by decide +kernel
theorem d_X6_copyFrom_24 : decode cX6_copyFrom 24 = .ok (.aload_n 0, 1) := by decide +kernel
theorem d_X6_copyFrom_25 : decode cX6_copyFrom 25 = .ok (.aload_n 1, 1) := by decide +kernel
theorem d_X6_copyFrom_26 : decode cX6_copyFrom 26 = .ok (.getfield 55, 3) := by decide +kernel
theorem d_X6_copyFrom_29 : decode cX6_copyFrom 29 = .ok (.putfield 55, 3) := by decide +kernel
theorem d_X6_copyFrom_32 : decode cX6_copyFrom 32 = .ok (.aload_n 0, 1) := by decide +kernel
theorem d_X6_copyFrom_33 : decode cX6_copyFrom 33 = .ok (.aload_n 1, 1) := by decide +kernel
theorem d_X6_copyFrom_34 : decode cX6_copyFrom 34 = .ok (.getfield 58, 3) := by decide +kernel
theorem d_X6_copyFrom_37 : decode cX6_copyFrom 37 = .ok (.putfield 58, 3) := by decide +kernel
theorem d_X6_copyFrom_40 : decode cX6_copyFrom 40 = .ok (.aload_n 1, 1) := by decide +kernel
theorem d_X6_copyFrom_41 : decode cX6_copyFrom 41 = .ok (.getfield 18, 3) := by decide +kernel
theorem d_X6_copyFrom_44 : decode cX6_copyFrom 44 = .ok (.iconst 0, 1) := by decide +kernel
theorem d_X6_copyFrom_45 : decode cX6_copyFrom 45 = .ok (.aload_n 0, 1) := by decide +kernel
theorem d_X6_copyFrom_46 : decode cX6_copyFrom 46 = .ok (.getfield 18, 3) := by decide +kernel
theorem d_X6_copyFrom_49 : decode cX6_copyFrom 49 = .ok (.iconst 0, 1) := by decide +kernel
theorem d_X6_copyFrom_50 : decode cX6_copyFrom 50 = .ok (.bipush 48, 2) := by decide +kernel
theorem d_X6_copyFrom_52 : decode cX6_copyFrom 52 = .ok (.invokestatic 46, 3) := by decide +kernel
theorem d_X6_copyFrom_55 : decode cX6_copyFrom 55 = .ok (.aload_n 1, 1) := by decide +kernel
theorem d_X6_copyFrom_56 : decode cX6_copyFrom 56 = .ok (.getfield 22, 3) := by decide +kernel
theorem d_X6_copyFrom_59 : decode cX6_copyFrom 59 = .ok (.iconst 0, 1) := by decide +kernel
theorem d_X6_copyFrom_60 : decode cX6_copyFrom 60 = .ok (.aload_n 0, 1) := by decide +kernel
theorem d_X6_copyFrom_61 : decode cX6_copyFrom 61 = .ok (.getfield 22, 3) := by decide +kernel
theorem d_X6_copyFrom_64 : decode cX6_copyFrom 64 = .ok (.iconst 0, 1) := by decide +kernel
theorem d_X6_copyFrom_65 : decode cX6_copyFrom 65 = .ok (.bipush 48, 2) := by decide +kernel
theorem d_X6_copyFrom_67 : decode cX6_copyFrom 67 = .ok (.invokestatic 46, 3) := by decide +kernel
theorem d_X6_copyFrom_70 : decode cX6_copyFrom 70 = .ok (.aload_n 1, 1) := by decide +kernel
theorem d_X6_copyFrom_71 : decode cX6_copyFrom 71 = .ok (.getfield 40, 3) := by decide +kernel
theorem d_X6_copyFrom_74 : decode cX6_copyFrom 74 = .ok (.iconst 0, 1) := by decide +kernel
theorem d_X6_copyFrom_75 : decode cX6_copyFrom 75 = .ok (.aload_n 0, 1) := by decide +kernel
theorem d_X6_copyFrom_76 : decode cX6_copyFrom 76 = .ok (.getfield 40, 3) := by decide +kernel
theorem d_X6_copyFrom_79 : decode cX6_copyFrom 79 = .ok (.iconst 0, 1) := by decide +kernel
theorem d_X6_copyFrom_80 : decode cX6_copyFrom 80 = .ok (.iconst 3, 1) := by decide +kernel
theorem d_X6_copyFrom_81 : decode cX6_copyFrom 81 = .ok (.invokestatic 46, 3) := by decide +kernel
theorem d_X6_copyFrom_84 : decode cX6_copyFrom 84 = .ok (.iconst 0, 1) := by decide +kernel
theorem d_X6_copyFrom_85 : decode cX6_copyFrom 85 = .ok (.istore_n 2, 1) := by decide +kernel
theorem d_X6_copyFrom_86 : decode cX6_copyFrom 86 = .ok (.iload_n 2, 1) := by decide +kernel
theorem d_X6_copyFrom_87 : decode cX6_copyFrom 87 = .ok (.aload_n 0, 1) := by decide +kernel
theorem d_X6_copyFrom_88 : decode cX6_copyFrom 88 = .ok (.getfield 55, 3) := by decide +kernel
theorem d_X6_copyFrom_91 : decode cX6_copyFrom 91 = .ok (.if_icmp .ge 30, 3) := by decide +kernel
theorem d_X6_copyFrom_94 : decode cX6_copyFrom 94 = .ok (.iload_n 2, 1) := by decide +kernel
theorem d_X6_copyFrom_95 : decode cX6_copyFrom 95 = .ok (.bipush 6, 2) := by decide +kernel
theorem d_X6_copyFrom_97 : decode cX6_copyFrom 97 = .ok (.if_icmp .ge 24, 3) := by decide +kernel
theorem d_X6_copyFrom_100 : decode cX6_copyFrom 100 = .ok (.aload_n 0, 1) := by decide +kernel
theorem d_X6_copyFrom_101 : decode cX6_copyFrom 101 = .ok (.getfield 28, 3) := by decide +kernel
theorem d_X6_copyFrom_104 : decode cX6_copyFrom 104 = .ok (.iload_n 2, 1) := by decide +kernel
theorem d_X6_copyFrom_105 : decode cX6_copyFrom 105 = .ok (.aaload, 1) := by decide +kernel
theorem d_X6_copyFrom_106 : decode cX6_copyFrom 106 = .ok (.aload_n 1, 1) := by decide +kernel
theorem d_X6_copyFrom_107 : decode cX6_copyFrom 107 = .ok (.getfield 28, 3) := by decide +kernel
theorem d_X6_copyFrom_110 : decode cX6_copyFrom 110 = .ok (.iload_n 2, 1) := by decide +kernel
theorem d_X6_copyFrom_111 : decode cX6_copyFrom 111 = .ok (.aaload, 1) := by decide +kernel
theorem d_X6_copyFrom_112 : decode cX6_copyFrom 112 = .ok (.invokevirtual 61, 3) := by decide +kernel
theorem d_X6_copyFrom_115 : decode cX6_copyFrom 115 = .ok (.iinc 2 1, 3) := by decide +kernel
theorem d_X6_copyFrom_118 : decode cX6_copyFrom 118 = .ok (.goto (-32), 3) := by decide +kernel
theorem d_X6_copyFrom_121 : decode cX6_copyFrom 121 = .ok (.iconst 0, 1) := by decide +kernel
theorem d_X6_copyFrom_122 : decode cX6_copyFrom 122 = .ok (.istore_n 2, 1) := by decide +kernel
theorem d_X6_copyFrom_123 : decode cX6_copyFrom 123 = .ok (.iload_n 2, 1) := by decide +kernel
theorem d_X6_copyFrom_124 : decode cX6_copyFrom 124 = .ok (.aload_n 0, 1) := by decide +kernel
theorem d_X6_copyFrom_125 : decode cX6_copyFrom 125 = .ok (.getfield 58, 3) := by decide +kernel
theorem d_X6_copyFrom_128 : decode cX6_copyFrom 128 = .ok (.if_icmp .ge 30, 3) := by decide +kernel
theorem d_X6_copyFrom_131 : decode cX6_copyFrom 131 = .ok (.iload_n 2, 1) := by decide +kernel
theorem d_X6_copyFrom_132 : decode cX6_copyFrom 132 = .ok (.bipush 10, 2) := by decide +kernel
theorem d_X6_copyFrom_134 : decode cX6_copyFrom 134 = .ok (.if_icmp .ge 24, 3) := by decide +kernel
theorem d_X6_copyFrom_137 : decode cX6_copyFrom 137 = .ok (.aload_n 0, 1) := by decide +kernel
theorem d_X6_copyFrom_138 : decode cX6_copyFrom 138 = .ok (.getfield 35, 3) := by decide +kernel
theorem d_X6_copyFrom_141 : decode cX6_copyFrom 141 = .ok (.iload_n 2, 1) := by decide +kernel
theorem d_X6_copyFrom_142 : decode cX6_copyFrom 142 = .ok (.aaload, 1) := by decide +kernel
theorem d_X6_copyFrom_143 : decode cX6_copyFrom 143 = .ok (.aload_n 1, 1) := by decide +kernel
theorem d_X6_copyFrom_144 : decode cX6_copyFrom 144 = .ok (.getfield 35, 3) := by decide +kernel
theorem d_X6_copyFrom_147 : decode cX6_copyFrom 147 = .ok (.iload_n 2, 1) := by decide +kernel
theorem d_X6_copyFrom_148 : decode cX6_copyFrom 148 = .ok (.aaload, 1) := by decide +kernel
theorem d_X6_copyFrom_149 : decode cX6_copyFrom 149 = .ok (.invokevirtual 65, 3) := by decide +kernel
theorem d_X6_copyFrom_152 : decode cX6_copyFrom 152 = .ok (.iinc 2 1, 3) := by decide +kernel
theorem d_X6_copyFrom_155 : decode cX6_copyFrom 155 = .ok (.goto (-32), 3) := by decide +kernel
theorem d_X6_copyFrom_158 : decode cX6_copyFrom 158 = .ok (.return_, 1) := by decide +kernel
theorem d_X6_rebuild_0 : decode cX6_rebuild 0 = .ok (.aload_n 0, 1) := by decide +kernel
theorem d_X6_rebuild_1 : decode cX6_rebuild 1 = .ok (.aload_n 1, 1) := by decide +kernel
theorem d_X6_rebuild_2 : decode cX6_rebuild 2 = .ok (.getfield 68, 3) := by decide +kernel
theorem d_X6_rebuild_5 : decode cX6_rebuild 5 = .ok (.putfield 9, 3) := by decide +kernel
theorem d_X6_rebuild_8 : decode cX6_rebuild 8 = .ok (.aload_n 0, 1) := by decide +kernel
theorem d_X6_rebuild_9 : decode cX6_rebuild 9 = .ok (.aload_n 1, 1) := by decide +kernel
theorem d_X6_rebuild_10 : decode cX6_rebuild 10 = .ok (.getfield 71, 3) := by decide +kernel
theorem d_X6_rebuild_13 : decode cX6_rebuild 13 = .ok (.putfield 15, 3) := by decide +kernel
theorem d_X6_rebuild_16 : decode cX6_rebuild 16 = .ok (.aload_n 0, 1) := by decide +kernel
theorem d_X6_rebuild_17 : decode cX6_rebuild 17 = .ok (.iconst 0, 1) := by decide +kernel
theorem d_X6_rebuild_18 : decode cX6_rebuild 18 = .ok (.putfield 52, 3) := by decide +kernel
theorem d_X6_rebuild_21 : decode cX6_rebuild 21 = .ok (.aload_n 0, 1) := by decide +kernel
theorem d_X6_rebuild_22 : decode cX6_rebuild 22 = .ok (.iconst 0, 1) := by decide +kernel
theorem d_X6_rebuild_23 : decode cX6_rebuild 23 = .ok (.putfield 55, 3) := by decide +kernel
theorem d_X6_rebuild_26 : decode cX6_rebuild 26 = .ok (.aload_n 0, 1) := by decide +kernel
theorem d_X6_rebuild_27 : decode cX6_rebuild 27 = .ok (.iconst 0, 1) := by decide +kernel
theorem d_X6_rebuild_28 : decode cX6_rebuild 28 = .ok (.putfield 58, 3) := by decide +kernel
theorem d_X6_rebuild_31 : decode cX6_rebuild 31 = .ok (.iconst 0, 1) := by decide +kernel
theorem d_X6_rebuild_32 : decode cX6_rebuild 32 = .ok (.istore_n 2, 1) := by decide +kernel
theorem d_X6_rebuild_33 : decode cX6_rebuild 33 = .ok (.iconst 0, 1) := by decide +kernel
theorem d_X6_rebuild_34 : decode cX6_rebuild 34 = .ok (.istore_n 3, 1) := by decide +kernel
theorem d_X6_rebuild_35 : decode cX6_rebuild 35 = .ok (.iload_n 3, 1) := by decide +kernel
theorem d_X6_rebuild_36 : decode cX6_rebuild 36 = .ok (.aload_n 1, 1) := by decide +kernel
theorem d_X6_rebuild_37 : decode cX6_rebuild 37 = .ok (.getfield 72, 3) := by decide +kernel
theorem d_X6_rebuild_40 : decode cX6_rebuild 40 = .ok (.if_icmp .ge 56, 3) := by decide +kernel
theorem d_X6_rebuild_43 : decode cX6_rebuild 43 = .ok (.iload_n 3, 1) := by decide +kernel
theorem d_X6_rebuild_44 : decode cX6_rebuild 44 = .ok (.bipush 60, 2) := by decide +kernel
theorem d_X6_rebuild_46 : decode cX6_rebuild 46 = .ok (.if_icmp .ge 50, 3) := by decide +kernel
theorem d_X6_rebuild_49 : decode cX6_rebuild 49 = .ok (.aload_n 1, 1) := by decide +kernel
theorem d_X6_rebuild_50 : decode cX6_rebuild 50 = .ok (.getfield 75, 3) := by decide +kernel
theorem d_X6_rebuild_53 : decode cX6_rebuild 53 = .ok (.iload_n 3, 1) := by decide +kernel
theorem d_X6_rebuild_54 : decode cX6_rebuild 54 = .ok (.caload, 1) := by decide +kernel
theorem d_X6_rebuild_55 : decode cX6_rebuild 55 = .ok (.invokestatic 79, 3) := by decide +kernel
theorem d_X6_rebuild_58 : decode cX6_rebuild 58 = .ok (.istore 4, 2) := by decide +kernel
theorem d_X6_rebuild_60 : decode cX6_rebuild 60 = .ok (.iload 4, 2) := by decide +kernel
theorem d_X6_rebuild_62 : decode cX6_rebuild 62 = .ok (.iconst (-1), 1) := by decide +kernel
theorem d_X6_rebuild_63 : decode cX6_rebuild 63 = .ok (.if_icmp .eq 27, 3) := by decide +kernel
theorem d_X6_rebuild_66 : decode cX6_rebuild 66 = .ok (.iload_n 2, 1) := by decide +kernel
theorem d_X6_rebuild_67 : decode cX6_rebuild 67 = .ok (.bipush 48, 2) := by decide +kernel
theorem d_X6_rebuild_69 : decode cX6_rebuild 69 = .ok (.if_icmp .ge 21, 3) := by decide +kernel
theorem d_X6_rebuild_72 : decode cX6_rebuild 72 = .ok (.aload_n 0, 1) := by decide +kernel
theorem d_X6_rebuild_73 : decode cX6_rebuild 73 = .ok (.getfield 18, 3) := by decide +kernel
theorem d_X6_rebuild_76 : decode cX6_rebuild 76 = .ok (.iload_n 2, 1) := by decide +kernel
theorem d_X6_rebuild_77 : decode cX6_rebuild 77 = .ok (.iload 4, 2) := by decide +kernel
theorem d_X6_rebuild_79 : decode cX6_rebuild 79 = .ok (.iastore, 1) := by decide +kernel
theorem d_X6_rebuild_80 : decode cX6_rebuild 80 = .ok (.aload_n 0, 1) := by decide +kernel
theorem d_X6_rebuild_81 : decode cX6_rebuild 81 = .ok (.getfield 22, 3) := by decide +kernel
theorem d_X6_rebuild_84 : decode cX6_rebuild 84 = .ok (.iload_n 2, 1) := by decide +kernel
theorem d_X6_rebuild_85 : decode cX6_rebuild 85 = .ok (.iconst 0, 1) := by decide +kernel
theorem d_X6_rebuild_86 : decode cX6_rebuild 86 = .ok (.bastore, 1) := by decide +kernel
theorem d_X6_rebuild_87 : decode cX6_rebuild 87 = .ok (.iinc 2 1, 3) := by decide +kernel
theorem d_X6_rebuild_90 : decode cX6_rebuild 90 = .ok (.iinc 3 1, 3) := by decide +kernel
theorem d_X6_rebuild_93 : decode cX6_rebuild 93 = .ok (.goto (-58), 3) := by decide +kernel
theorem d_X6_rebuild_96 : decode cX6_rebuild 96 = .ok (.return_, 1) := by decide +kernel
theorem d_X6_cellCount_0 : decode cX6_cellCount 0 = .ok (.aload_n 0, 1) := by decide +kernel
theorem d_X6_cellCount_1 : decode cX6_cellCount 1 = .ok (.getfield 9, 3) := by decide +kernel
theorem d_X6_cellCount_4 : decode cX6_cellCount 4 = .ok (.aload_n 0, 1) := by decide +kernel
theorem d_X6_cellCount_5 : decode cX6_cellCount 5 = .ok (.getfield 15, 3) := by decide +kernel
theorem d_X6_cellCount_8 : decode cX6_cellCount 8 = .ok (.imul, 1) := by decide +kernel
theorem d_X6_cellCount_9 : decode cX6_cellCount 9 = .ok (.ireturn, 1) := by decide +kernel
theorem d_X6_isCell_0 : decode cX6_isCell 0 = .ok (.iload_n 1, 1) := by decide +kernel
theorem d_X6_isCell_1 : decode cX6_isCell 1 = .ok (.ifCond .lt 21, 3) := by decide +kernel
theorem d_X6_isCell_4 : decode cX6_isCell 4 = .ok (.iload_n 1, 1) := by decide +kernel
theorem d_X6_isCell_5 : decode cX6_isCell 5 = .ok (.aload_n 0, 1) := by decide +kernel
theorem d_X6_isCell_6 : decode cX6_isCell 6 = .ok (.invokevirtual 83, 3) := by decide +kernel
theorem d_X6_isCell_9 : decode cX6_isCell 9 = .ok (.if_icmp .ge 13, 3) := by decide +kernel
theorem d_X6_isCell_12 : decode cX6_isCell 12 = .ok (.iload_n 1, 1) := by decide +kernel
theorem d_X6_isCell_13 : decode cX6_isCell 13 = .ok (.bipush 48, 2) := by decide +kernel
theorem d_X6_isCell_15 : decode cX6_isCell 15 = .ok (.if_icmp .ge 7, 3) := by decide +kernel
theorem d_X6_isCell_18 : decode cX6_isCell 18 = .ok (.iconst 1, 1) := by decide +kernel
theorem d_X6_isCell_19 : decode cX6_isCell 19 = .ok (.goto 4, 3) := by decide +kernel
theorem d_X6_isCell_22 : decode cX6_isCell 22 = .ok (.iconst 0, 1) := by decide +kernel
theorem d_X6_isCell_23 : decode cX6_isCell 23 = .ok (.ireturn, 1) := by decide +kernel
theorem d_X6_isCellOrNone_0 : decode cX6_isCellOrNone 0 = .ok (.iload_n 1, 1) := by decide +kernel
theorem d_X6_isCellOrNone_1 : decode cX6_isCellOrNone 1 = .ok (.iconst (-1), 1) := by decide +kernel
theorem d_X6_isCellOrNone_2 : decode cX6_isCellOrNone 2 = .ok (.if_icmp .eq 11, 3) := by decide +kernel
theorem d_X6_isCellOrNone_5 : decode cX6_isCellOrNone 5 = .ok (.aload_n 0, 1) := by decide +kernel
theorem d_X6_isCellOrNone_6 : decode cX6_isCellOrNone 6 = .ok (.iload_n 1, 1) := by decide +kernel
theorem d_X6_isCellOrNone_7 : decode cX6_isCellOrNone 7 = .ok (.invokevirtual 87, 3) := by decide +kernel
theorem d_X6_isCellOrNone_10 : decode cX6_isCellOrNone 10 = .ok (.ifCond .eq 7, 3) := by decide +kernel
theorem d_X6_isCellOrNone_13 : decode cX6_isCellOrNone 13 = .ok (.iconst 1, 1) := by decide +kernel
theorem d_X6_isCellOrNone_14 : decode cX6_isCellOrNone 14 = .ok (.goto 4, 3) := by decide +kernel
theorem d_X6_isCellOrNone_17 : decode cX6_isCellOrNone 17 = .ok (.iconst 0, 1) := by decide +kernel
theorem d_X6_isCellOrNone_18 : decode cX6_isCellOrNone 18 = .ok (.ireturn, 1) := by decide +kernel
theorem d_X6_isRobot_0 : decode cX6_isRobot 0 = .ok (.iload_n 1, 1) := by decide +kernel
theorem d_X6_isRobot_1 : decode cX6_isRobot 1 = .ok (.ifCond .lt 21, 3) := by decide +kernel
theorem d_X6_isRobot_4 : decode cX6_isRobot 4 = .ok (.iload_n 1, 1) := by decide +kernel
theorem d_X6_isRobot_5 : decode cX6_isRobot 5 = .ok (.aload_n 0, 1) := by decide +kernel
theorem d_X6_isRobot_6 : decode cX6_isRobot 6 = .ok (.getfield 55, 3) := by decide +kernel
theorem d_X6_isRobot_9 : decode cX6_isRobot 9 = .ok (.if_icmp .ge 13, 3) := by decide +kernel
theorem d_X6_isRobot_12 : decode cX6_isRobot 12 = .ok (.iload_n 1, 1) := by decide +kernel
theorem d_X6_isRobot_13 : decode cX6_isRobot 13 = .ok (.bipush 6, 2) := by decide +kernel
theorem d_X6_isRobot_15 : decode cX6_isRobot 15 = .ok (.if_icmp .ge 7, 3) := by decide +kernel
theorem d_X6_isRobot_18 : decode cX6_isRobot 18 = .ok (.iconst 1, 1) := by decide +kernel
theorem d_X6_isRobot_19 : decode cX6_isRobot 19 = .ok (.goto 4, 3) := by decide +kernel
theorem d_X6_isRobot_22 : decode cX6_isRobot 22 = .ok (.iconst 0, 1) := by decide +kernel
theorem d_X6_isRobot_23 : decode cX6_isRobot 23 = .ok (.ireturn, 1) := by decide +kernel
theorem d_X6_isOrder_0 : decode cX6_isOrder 0 = .ok (.iload_n 1, 1) := by decide +kernel
theorem d_X6_isOrder_1 : decode cX6_isOrder 1 = .ok (.ifCond .lt 21, 3) := by decide +kernel
theorem d_X6_isOrder_4 : decode cX6_isOrder 4 = .ok (.iload_n 1, 1) := by decide +kernel
theorem d_X6_isOrder_5 : decode cX6_isOrder 5 = .ok (.aload_n 0, 1) := by decide +kernel
theorem d_X6_isOrder_6 : decode cX6_isOrder 6 = .ok (.getfield 58, 3) := by decide +kernel
theorem d_X6_isOrder_9 : decode cX6_isOrder 9 = .ok (.if_icmp .ge 13, 3) := by decide +kernel
theorem d_X6_isOrder_12 : decode cX6_isOrder 12 = .ok (.iload_n 1, 1) := by decide +kernel
theorem d_X6_isOrder_13 : decode cX6_isOrder 13 = .ok (.bipush 10, 2) := by decide +kernel
theorem d_X6_isOrder_15 : decode cX6_isOrder 15 = .ok (.if_icmp .ge 7, 3) := by decide +kernel
theorem d_X6_isOrder_18 : decode cX6_isOrder 18 = .ok (.iconst 1, 1) := by decide +kernel
theorem d_X6_isOrder_19 : decode cX6_isOrder 19 = .ok (.goto 4, 3) := by decide +kernel
theorem d_X6_isOrder_22 : decode cX6_isOrder 22 = .ok (.iconst 0, 1) := by decide +kernel
theorem d_X6_isOrder_23 : decode cX6_isOrder 23 = .ok (.ireturn, 1) := by decide +kernel
theorem d_X6_canEnter_0 : decode cX6_canEnter 0 = .ok (.aload_n 0, 1) := by decide +kernel
theorem d_X6_canEnter_1 : decode cX6_canEnter 1 = .ok (.iload_n 1, 1) := by decide +kernel
theorem d_X6_canEnter_2 : decode cX6_canEnter 2 = .ok (.invokevirtual 87, 3) := by decide +kernel
theorem d_X6_canEnter_5 : decode cX6_canEnter 5 = .ok (.ifCond .eq 26, 3) := by decide +kernel
theorem d_X6_canEnter_8 : decode cX6_canEnter 8 = .ok (.aload_n 0, 1) := by decide +kernel
theorem d_X6_canEnter_9 : decode cX6_canEnter 9 = .ok (.getfield 18, 3) := by decide +kernel
theorem d_X6_canEnter_12 : decode cX6_canEnter 12 = .ok (.iload_n 1, 1) := by decide +kernel
theorem d_X6_canEnter_13 : decode cX6_canEnter 13 = .ok (.iaload, 1) := by decide +kernel
theorem d_X6_canEnter_14 : decode cX6_canEnter 14 = .ok (.iconst 1, 1) := by decide +kernel
theorem d_X6_canEnter_15 : decode cX6_canEnter 15 = .ok (.if_icmp .eq 16, 3) := by decide +kernel
theorem d_X6_canEnter_18 : decode cX6_canEnter 18 = .ok (.aload_n 0, 1) := by decide +kernel
theorem d_X6_canEnter_19 : decode cX6_canEnter 19 = .ok (.getfield 22, 3) := by decide +kernel
theorem d_X6_canEnter_22 : decode cX6_canEnter 22 = .ok (.iload_n 1, 1) := by decide +kernel
theorem d_X6_canEnter_23 : decode cX6_canEnter 23 = .ok (.baload, 1) := by decide +kernel
theorem d_X6_canEnter_24 : decode cX6_canEnter 24 = .ok (.ifCond .ne 7, 3) := by decide +kernel
theorem d_X6_canEnter_27 : decode cX6_canEnter 27 = .ok (.iconst 1, 1) := by decide +kernel
theorem d_X6_canEnter_28 : decode cX6_canEnter 28 = .ok (.goto 4, 3) := by decide +kernel
theorem d_X6_canEnter_31 : decode cX6_canEnter 31 = .ok (.iconst 0, 1) := by decide +kernel
theorem d_X6_canEnter_32 : decode cX6_canEnter 32 = .ok (.ireturn, 1) := by decide +kernel
theorem d_X6_neighbor_0 : decode cX6_neighbor 0 = .ok (.iload_n 2, 1) := by decide +kernel
theorem d_X6_neighbor_1 : decode cX6_neighbor 1 = .ok (.tableswitch 112 0 3 #[31, 50, 72, 96], 31) := by decide +kernel
theorem d_X6_neighbor_32 : decode cX6_neighbor 32 = .ok (.iload_n 1, 1) := by decide +kernel
theorem d_X6_neighbor_33 : decode cX6_neighbor 33 = .ok (.aload_n 0, 1) := by decide +kernel
theorem d_X6_neighbor_34 : decode cX6_neighbor 34 = .ok (.getfield 15, 3) := by decide +kernel
theorem d_X6_neighbor_37 : decode cX6_neighbor 37 = .ok (.if_icmp .lt 12, 3) := by decide +kernel
theorem d_X6_neighbor_40 : decode cX6_neighbor 40 = .ok (.iload_n 1, 1) := by decide +kernel
theorem d_X6_neighbor_41 : decode cX6_neighbor 41 = .ok (.aload_n 0, 1) := by decide +kernel
theorem d_X6_neighbor_42 : decode cX6_neighbor 42 = .ok (.getfield 15, 3) := by decide +kernel
theorem d_X6_neighbor_45 : decode cX6_neighbor 45 = .ok (.isub, 1) := by decide +kernel
theorem d_X6_neighbor_46 : decode cX6_neighbor 46 = .ok (.goto 4, 3) := by decide +kernel
theorem d_X6_neighbor_49 : decode cX6_neighbor 49 = .ok (.iconst (-1), 1) := by decide +kernel
theorem d_X6_neighbor_50 : decode cX6_neighbor 50 = .ok (.ireturn, 1) := by decide +kernel
theorem d_X6_neighbor_51 : decode cX6_neighbor 51 = .ok (.aload_n 0, 1) := by decide +kernel
theorem d_X6_neighbor_52 : decode cX6_neighbor 52 = .ok (.iload_n 1, 1) := by decide +kernel
theorem d_X6_neighbor_53 : decode cX6_neighbor 53 = .ok (.invokevirtual 91, 3) := by decide +kernel
theorem d_X6_neighbor_56 : decode cX6_neighbor 56 = .ok (.iconst 1, 1) := by decide +kernel
theorem d_X6_neighbor_57 : decode cX6_neighbor 57 = .ok (.iadd, 1) := by decide +kernel
theorem d_X6_neighbor_58 : decode cX6_neighbor 58 = .ok (.aload_n 0, 1) := by decide +kernel
theorem d_X6_neighbor_59 : decode cX6_neighbor 59 = .ok (.getfield 15, 3) := by decide +kernel
theorem d_X6_neighbor_62 : decode cX6_neighbor 62 = .ok (.if_icmp .ge 9, 3) := by decide +kernel
theorem d_X6_neighbor_65 : decode cX6_neighbor 65 = .ok (.iload_n 1, 1) := by decide +kernel
theorem d_X6_neighbor_66 : decode cX6_neighbor 66 = .ok (.iconst 1, 1) := by decide +kernel
theorem d_X6_neighbor_67 : decode cX6_neighbor 67 = .ok (.iadd, 1) := by decide +kernel
theorem d_X6_neighbor_68 : decode cX6_neighbor 68 = .ok (.goto 4, 3) := by decide +kernel
theorem d_X6_neighbor_71 : decode cX6_neighbor 71 = .ok (.iconst (-1), 1) := by decide +kernel
theorem d_X6_neighbor_72 : decode cX6_neighbor 72 = .ok (.ireturn, 1) := by decide +kernel
theorem d_X6_neighbor_73 : decode cX6_neighbor 73 = .ok (.iload_n 1, 1) := by decide +kernel
theorem d_X6_neighbor_74 : decode cX6_neighbor 74 = .ok (.aload_n 0, 1) := by decide +kernel
theorem d_X6_neighbor_75 : decode cX6_neighbor 75 = .ok (.getfield 15, 3) := by decide +kernel
theorem d_X6_neighbor_78 : decode cX6_neighbor 78 = .ok (.iadd, 1) := by decide +kernel
theorem d_X6_neighbor_79 : decode cX6_neighbor 79 = .ok (.aload_n 0, 1) := by decide +kernel
theorem d_X6_neighbor_80 : decode cX6_neighbor 80 = .ok (.invokevirtual 83, 3) := by decide +kernel
theorem d_X6_neighbor_83 : decode cX6_neighbor 83 = .ok (.if_icmp .ge 12, 3) := by decide +kernel
theorem d_X6_neighbor_86 : decode cX6_neighbor 86 = .ok (.iload_n 1, 1) := by decide +kernel
theorem d_X6_neighbor_87 : decode cX6_neighbor 87 = .ok (.aload_n 0, 1) := by decide +kernel
theorem d_X6_neighbor_88 : decode cX6_neighbor 88 = .ok (.getfield 15, 3) := by decide +kernel
theorem d_X6_neighbor_91 : decode cX6_neighbor 91 = .ok (.iadd, 1) := by decide +kernel
theorem d_X6_neighbor_92 : decode cX6_neighbor 92 = .ok (.goto 4, 3) := by decide +kernel
theorem d_X6_neighbor_95 : decode cX6_neighbor 95 = .ok (.iconst (-1), 1) := by decide +kernel
theorem d_X6_neighbor_96 : decode cX6_neighbor 96 = .ok (.ireturn, 1) := by decide +kernel
theorem d_X6_neighbor_97 : decode cX6_neighbor 97 = .ok (.aload_n 0, 1) := by decide +kernel
theorem d_X6_neighbor_98 : decode cX6_neighbor 98 = .ok (.iload_n 1, 1) := by decide +kernel
theorem d_X6_neighbor_99 : decode cX6_neighbor 99 = .ok (.invokevirtual 91, 3) := by decide +kernel
theorem d_X6_neighbor_102 : decode cX6_neighbor 102 = .ok (.ifCond .le 9, 3) := by decide +kernel
theorem d_X6_neighbor_105 : decode cX6_neighbor 105 = .ok (.iload_n 1, 1) := by decide +kernel
theorem d_X6_neighbor_106 : decode cX6_neighbor 106 = .ok (.iconst 1, 1) := by decide +kernel
theorem d_X6_neighbor_107 : decode cX6_neighbor 107 = .ok (.isub, 1) := by decide +kernel
theorem d_X6_neighbor_108 : decode cX6_neighbor 108 = .ok (.goto 4, 3) := by decide +kernel
theorem d_X6_neighbor_111 : decode cX6_neighbor 111 = .ok (.iconst (-1), 1) := by decide +kernel
theorem d_X6_neighbor_112 : decode cX6_neighbor 112 = .ok (.ireturn, 1) := by decide +kernel
theorem d_X6_neighbor_113 : decode cX6_neighbor 113 = .ok (.iload_n 1, 1) := by decide +kernel
theorem d_X6_neighbor_114 : decode cX6_neighbor 114 = .ok (.ireturn, 1) := by decide +kernel
theorem d_X6_columnOf_0 : decode cX6_columnOf 0 = .ok (.aload_n 0, 1) := by decide +kernel
theorem d_X6_columnOf_1 : decode cX6_columnOf 1 = .ok (.getfield 15, 3) := by decide +kernel
theorem d_X6_columnOf_4 : decode cX6_columnOf 4 = .ok (.ifCond .le 12, 3) := by decide +kernel
theorem d_X6_columnOf_7 : decode cX6_columnOf 7 = .ok (.iload_n 1, 1) := by decide +kernel
theorem d_X6_columnOf_8 : decode cX6_columnOf 8 = .ok (.aload_n 0, 1) := by decide +kernel
theorem d_X6_columnOf_9 : decode cX6_columnOf 9 = .ok (.getfield 15, 3) := by decide +kernel
theorem d_X6_columnOf_12 : decode cX6_columnOf 12 = .ok (.irem, 1) := by decide +kernel
theorem d_X6_columnOf_13 : decode cX6_columnOf 13 = .ok (.goto 4, 3) := by decide +kernel
theorem d_X6_columnOf_16 : decode cX6_columnOf 16 = .ok (.iconst 0, 1) := by decide +kernel
theorem d_X6_columnOf_17 : decode cX6_columnOf 17 = .ok (.ireturn, 1) := by decide +kernel
theorem d_X6_enteredNeighbors_0 : decode cX6_enteredNeighbors 0 = .ok (.iconst 0, 1) := by decide +kernel
theorem d_X6_enteredNeighbors_1 : decode cX6_enteredNeighbors 1 = .ok (.istore_n 2, 1) := by decide +kernel
theorem d_X6_enteredNeighbors_2 : decode cX6_enteredNeighbors 2 = .ok (.iconst 0, 1) := by decide +kernel
theorem d_X6_enteredNeighbors_3 : decode cX6_enteredNeighbors 3 = .ok (.istore_n 3, 1) := by decide +kernel
theorem d_X6_enteredNeighbors_4 : decode cX6_enteredNeighbors 4 = .ok (.iload_n 3, 1) := by decide +kernel
theorem d_X6_enteredNeighbors_5 : decode cX6_enteredNeighbors 5 = .ok (.iconst 4, 1) := by decide +kernel
theorem d_X6_enteredNeighbors_6 : decode cX6_enteredNeighbors 6 = .ok (.if_icmp .ge 25, 3) := by decide +kernel
theorem d_X6_enteredNeighbors_9 : decode cX6_enteredNeighbors 9 = .ok (.aload_n 0, 1) := by decide +kernel
theorem d_X6_enteredNeighbors_10 : decode cX6_enteredNeighbors 10 = .ok (.aload_n 0, 1) := by decide +kernel
theorem d_X6_enteredNeighbors_11 : decode cX6_enteredNeighbors 11 = .ok (.iload_n 1, 1) := by decide +kernel
theorem d_X6_enteredNeighbors_12 : decode cX6_enteredNeighbors 12 = .ok (.iload_n 3, 1) := by decide +kernel
theorem d_X6_enteredNeighbors_13 : decode cX6_enteredNeighbors 13 = .ok (.invokevirtual 95, 3) := by decide +kernel
theorem d_X6_enteredNeighbors_16 : decode cX6_enteredNeighbors 16 = .ok (.invokevirtual 99, 3) := by decide +kernel
theorem d_X6_enteredNeighbors_19 : decode cX6_enteredNeighbors 19 = .ok (.ifCond .eq 6, 3) := by decide +kernel
theorem d_X6_enteredNeighbors_22 : decode cX6_enteredNeighbors 22 = .ok (.iinc 2 1, 3) := by decide +kernel
theorem d_X6_enteredNeighbors_25 : decode cX6_enteredNeighbors 25 = .ok (.iinc 3 1, 3) := by decide +kernel
theorem d_X6_enteredNeighbors_28 : decode cX6_enteredNeighbors 28 = .ok (.goto (-24), 3) := by decide +kernel
theorem d_X6_enteredNeighbors_31 : decode cX6_enteredNeighbors 31 = .ok (.iload_n 2, 1) := by decide +kernel
theorem d_X6_enteredNeighbors_32 : decode cX6_enteredNeighbors 32 = .ok (.ireturn, 1) := by decide +kernel
theorem d_X6_closedCount_0 : decode cX6_closedCount 0 = .ok (.iconst 0, 1) := by decide +kernel
theorem d_X6_closedCount_1 : decode cX6_closedCount 1 = .ok (.istore_n 1, 1) := by decide +kernel
theorem d_X6_closedCount_2 : decode cX6_closedCount 2 = .ok (.iconst 0, 1) := by decide +kernel
theorem d_X6_closedCount_3 : decode cX6_closedCount 3 = .ok (.istore_n 2, 1) := by decide +kernel
theorem d_X6_closedCount_4 : decode cX6_closedCount 4 = .ok (.aload_n 0, 1) := by decide +kernel
theorem d_X6_closedCount_5 : decode cX6_closedCount 5 = .ok (.iload_n 2, 1) := by decide +kernel
theorem d_X6_closedCount_6 : decode cX6_closedCount 6 = .ok (.invokevirtual 87, 3) := by decide +kernel
theorem d_X6_closedCount_9 : decode cX6_closedCount 9 = .ok (.ifCond .eq 27, 3) := by decide +kernel
theorem d_X6_closedCount_12 : decode cX6_closedCount 12 = .ok (.iload_n 2, 1) := by decide +kernel
theorem d_X6_closedCount_13 : decode cX6_closedCount 13 = .ok (.bipush 48, 2) := by decide +kernel
theorem d_X6_closedCount_15 : decode cX6_closedCount 15 = .ok (.if_icmp .ge 21, 3) := by decide +kernel
theorem d_X6_closedCount_18 : decode cX6_closedCount 18 = .ok (.aload_n 0, 1) := by decide +kernel
theorem d_X6_closedCount_19 : decode cX6_closedCount 19 = .ok (.getfield 22, 3) := by decide +kernel
theorem d_X6_closedCount_22 : decode cX6_closedCount 22 = .ok (.iload_n 2, 1) := by decide +kernel
theorem d_X6_closedCount_23 : decode cX6_closedCount 23 = .ok (.baload, 1) := by decide +kernel
theorem d_X6_closedCount_24 : decode cX6_closedCount 24 = .ok (.ifCond .eq 6, 3) := by decide +kernel
theorem d_X6_closedCount_27 : decode cX6_closedCount 27 = .ok (.iinc 1 1, 3) := by decide +kernel
theorem d_X6_closedCount_30 : decode cX6_closedCount 30 = .ok (.iinc 2 1, 3) := by decide +kernel
theorem d_X6_closedCount_33 : decode cX6_closedCount 33 = .ok (.goto (-29), 3) := by decide +kernel
theorem d_X6_closedCount_36 : decode cX6_closedCount 36 = .ok (.iload_n 1, 1) := by decide +kernel
theorem d_X6_closedCount_37 : decode cX6_closedCount 37 = .ok (.ireturn, 1) := by decide +kernel
theorem d_X6_putRobot_0 : decode cX6_putRobot 0 = .ok (.aload_n 0, 1) := by decide +kernel
theorem d_X6_putRobot_1 : decode cX6_putRobot 1 = .ok (.getfield 55, 3) := by decide +kernel
theorem d_X6_putRobot_4 : decode cX6_putRobot 4 = .ok (.istore_n 3, 1) := by decide +kernel
theorem d_X6_putRobot_5 : decode cX6_putRobot 5 = .ok (.iload_n 3, 1) := by decide +kernel
theorem d_X6_putRobot_6 : decode cX6_putRobot 6 = .ok (.ifCond .lt 9, 3) := by decide +kernel
theorem d_X6_putRobot_9 : decode cX6_putRobot 9 = .ok (.iload_n 3, 1) := by decide +kernel
theorem d_X6_putRobot_10 : decode cX6_putRobot 10 = .ok (.bipush 6, 2) := by decide +kernel
theorem d_X6_putRobot_12 : decode cX6_putRobot 12 = .ok (.if_icmp .lt 5, 3) := by decide +kernel
theorem d_X6_putRobot_15 : decode cX6_putRobot 15 = .ok (.iconst (-1), 1) := by decide +kernel
theorem d_X6_putRobot_16 : decode cX6_putRobot 16 = .ok (.ireturn, 1) := by decide +kernel
theorem d_X6_putRobot_17 : decode cX6_putRobot 17 = .ok (.aload_n 0, 1) := by decide +kernel
theorem d_X6_putRobot_18 : decode cX6_putRobot 18 = .ok (.getfield 28, 3) := by decide +kernel
theorem d_X6_putRobot_21 : decode cX6_putRobot 21 = .ok (.iload_n 3, 1) := by decide +kernel
theorem d_X6_putRobot_22 : decode cX6_putRobot 22 = .ok (.aaload, 1) := by decide +kernel
theorem d_X6_putRobot_23 : decode cX6_putRobot 23 = .ok (.iload_n 1, 1) := by decide +kernel
theorem d_X6_putRobot_24 : decode cX6_putRobot 24 = .ok (.iload_n 2, 1) := by decide +kernel
theorem d_X6_putRobot_25 : decode cX6_putRobot 25 = .ok (.invokevirtual 102, 3) := by decide +kernel
theorem d_X6_putRobot_28 : decode cX6_putRobot 28 = .ok (.aload_n 0, 1) := by decide +kernel
theorem d_X6_putRobot_29 : decode cX6_putRobot 29 = .ok (.dup, 1) := by decide +kernel
theorem d_X6_putRobot_30 : decode cX6_putRobot 30 = .ok (.getfield 55, 3) := by decide +kernel
theorem d_X6_putRobot_33 : decode cX6_putRobot 33 = .ok (.iconst 1, 1) := by decide +kernel
theorem d_X6_putRobot_34 : decode cX6_putRobot 34 = .ok (.iadd, 1) := by decide +kernel
theorem d_X6_putRobot_35 : decode cX6_putRobot 35 = .ok (.putfield 55, 3) := by decide +kernel
theorem d_X6_putRobot_38 : decode cX6_putRobot 38 = .ok (.iload_n 3, 1) := by decide +kernel
theorem d_X6_putRobot_39 : decode cX6_putRobot 39 = .ok (.ireturn, 1) := by decide +kernel
theorem d_X6_dropRobot_0 : decode cX6_dropRobot 0 = .ok (.aload_n 0, 1) := by decide +kernel
theorem d_X6_dropRobot_1 : decode cX6_dropRobot 1 = .ok (.iload_n 1, 1) := by decide +kernel
theorem d_X6_dropRobot_2 : decode cX6_dropRobot 2 = .ok (.invokevirtual 106, 3) := by decide +kernel
theorem d_X6_dropRobot_5 : decode cX6_dropRobot 5 = .ok (.ifCond .ne 4, 3) := by decide +kernel
theorem d_X6_dropRobot_8 : decode cX6_dropRobot 8 = .ok (.return_, 1) := by decide +kernel
theorem d_X6_dropRobot_9 : decode cX6_dropRobot 9 = .ok (.aload_n 0, 1) := by decide +kernel
theorem d_X6_dropRobot_10 : decode cX6_dropRobot 10 = .ok (.getfield 28, 3) := by decide +kernel
theorem d_X6_dropRobot_13 : decode cX6_dropRobot 13 = .ok (.iload_n 1, 1) := by decide +kernel
theorem d_X6_dropRobot_14 : decode cX6_dropRobot 14 = .ok (.aaload, 1) := by decide +kernel
theorem d_X6_dropRobot_15 : decode cX6_dropRobot 15 = .ok (.astore_n 2, 1) := by decide +kernel
theorem d_X6_dropRobot_16 : decode cX6_dropRobot 16 = .ok (.iload_n 1, 1) := by decide +kernel
theorem d_X6_dropRobot_17 : decode cX6_dropRobot 17 = .ok (.istore_n 3, 1) := by decide +kernel
theorem d_X6_dropRobot_18 : decode cX6_dropRobot 18 = .ok (.iload_n 3, 1) := by decide +kernel
theorem d_X6_dropRobot_19 : decode cX6_dropRobot 19 = .ok (.iconst 1, 1) := by decide +kernel
theorem d_X6_dropRobot_20 : decode cX6_dropRobot 20 = .ok (.iadd, 1) := by decide +kernel
theorem d_X6_dropRobot_21 : decode cX6_dropRobot 21 = .ok (.aload_n 0, 1) := by decide +kernel
theorem d_X6_dropRobot_22 : decode cX6_dropRobot 22 = .ok (.getfield 55, 3) := by decide +kernel
theorem d_X6_dropRobot_25 : decode cX6_dropRobot 25 = .ok (.if_icmp .ge 31, 3) := by decide +kernel
theorem d_X6_dropRobot_28 : decode cX6_dropRobot 28 = .ok (.iload_n 3, 1) := by decide +kernel
theorem d_X6_dropRobot_29 : decode cX6_dropRobot 29 = .ok (.iconst 1, 1) := by decide +kernel
theorem d_X6_dropRobot_30 : decode cX6_dropRobot 30 = .ok (.iadd, 1) := by decide +kernel
theorem d_X6_dropRobot_31 : decode cX6_dropRobot 31 = .ok (.bipush 6, 2) := by decide +kernel
theorem d_X6_dropRobot_33 : decode cX6_dropRobot 33 = .ok (.if_icmp .ge 23, 3) := by decide +kernel
theorem d_X6_dropRobot_36 : decode cX6_dropRobot 36 = .ok (.aload_n 0, 1) := by decide +kernel
theorem d_X6_dropRobot_37 : decode cX6_dropRobot 37 = .ok (.getfield 28, 3) := by decide +kernel
theorem d_X6_dropRobot_40 : decode cX6_dropRobot 40 = .ok (.iload_n 3, 1) := by decide +kernel
theorem d_X6_dropRobot_41 : decode cX6_dropRobot 41 = .ok (.aload_n 0, 1) := by decide +kernel
theorem d_X6_dropRobot_42 : decode cX6_dropRobot 42 = .ok (.getfield 28, 3) := by decide +kernel
theorem d_X6_dropRobot_45 : decode cX6_dropRobot 45 = .ok (.iload_n 3, 1) := by decide +kernel
theorem d_X6_dropRobot_46 : decode cX6_dropRobot 46 = .ok (.iconst 1, 1) := by decide +kernel
theorem d_X6_dropRobot_47 : decode cX6_dropRobot 47 = .ok (.iadd, 1) := by decide +kernel
theorem d_X6_dropRobot_48 : decode cX6_dropRobot 48 = .ok (.aaload, 1) := by decide +kernel
theorem d_X6_dropRobot_49 : decode cX6_dropRobot 49 = .ok (.aastore, 1) := by decide +kernel
theorem d_X6_dropRobot_50 : decode cX6_dropRobot 50 = .ok (.iinc 3 1, 3) := by decide +kernel
theorem d_X6_dropRobot_53 : decode cX6_dropRobot 53 = .ok (.goto (-35), 3) := by decide +kernel
theorem d_X6_dropRobot_56 : decode cX6_dropRobot 56 = .ok (.aload_n 0, 1) := by decide +kernel
theorem d_X6_dropRobot_57 : decode cX6_dropRobot 57 = .ok (.dup, 1) := by decide +kernel
theorem d_X6_dropRobot_58 : decode cX6_dropRobot 58 = .ok (.getfield 55, 3) := by decide +kernel
theorem d_X6_dropRobot_61 : decode cX6_dropRobot 61 = .ok (.iconst 1, 1) := by decide +kernel
theorem d_X6_dropRobot_62 : decode cX6_dropRobot 62 = .ok (.isub, 1) := by decide +kernel
theorem d_X6_dropRobot_63 : decode cX6_dropRobot 63 = .ok (.putfield 55, 3) := by decide +kernel
theorem d_X6_dropRobot_66 : decode cX6_dropRobot 66 = .ok (.aload_n 0, 1) := by decide +kernel
theorem d_X6_dropRobot_67 : decode cX6_dropRobot 67 = .ok (.getfield 28, 3) := by decide +kernel
theorem d_X6_dropRobot_70 : decode cX6_dropRobot 70 = .ok (.aload_n 0, 1) := by decide +kernel
theorem d_X6_dropRobot_71 : decode cX6_dropRobot 71 = .ok (.getfield 55, 3) := by decide +kernel
theorem d_X6_dropRobot_74 : decode cX6_dropRobot 74 = .ok (.aload_n 2, 1) := by decide +kernel
theorem d_X6_dropRobot_75 : decode cX6_dropRobot 75 = .ok (.aastore, 1) := by decide +kernel
theorem d_X6_dropRobot_76 : decode cX6_dropRobot 76 = .ok (.return_, 1) := by decide +kernel
theorem d_X6_putOrder_0 : decode cX6_putOrder 0 = .ok (.aload_n 0, 1) := by decide +kernel
theorem d_X6_putOrder_1 : decode cX6_putOrder 1 = .ok (.getfield 58, 3) := by decide +kernel
theorem d_X6_putOrder_4 : decode cX6_putOrder 4 = .ok (.istore 5, 2) := by decide +kernel
theorem d_X6_putOrder_6 : decode cX6_putOrder 6 = .ok (.iload 5, 2) := by decide +kernel
theorem d_X6_putOrder_8 : decode cX6_putOrder 8 = .ok (.ifCond .lt 10, 3) := by decide +kernel
theorem d_X6_putOrder_11 : decode cX6_putOrder 11 = .ok (.iload 5, 2) := by decide +kernel
theorem d_X6_putOrder_13 : decode cX6_putOrder 13 = .ok (.bipush 10, 2) := by decide +kernel
theorem d_X6_putOrder_15 : decode cX6_putOrder 15 = .ok (.if_icmp .lt 5, 3) := by decide +kernel
theorem d_X6_putOrder_18 : decode cX6_putOrder 18 = .ok (.iconst (-1), 1) := by decide +kernel
theorem d_X6_putOrder_19 : decode cX6_putOrder 19 = .ok (.ireturn, 1) := by decide +kernel
theorem d_X6_putOrder_20 : decode cX6_putOrder 20 = .ok (.aload_n 0, 1) := by decide +kernel
theorem d_X6_putOrder_21 : decode cX6_putOrder 21 = .ok (.getfield 35, 3) := by decide +kernel
theorem d_X6_putOrder_24 : decode cX6_putOrder 24 = .ok (.iload 5, 2) := by decide +kernel
theorem d_X6_putOrder_26 : decode cX6_putOrder 26 = .ok (.aaload, 1) := by decide +kernel
theorem d_X6_putOrder_27 : decode cX6_putOrder 27 = .ok (.iload_n 1, 1) := by decide +kernel
theorem d_X6_putOrder_28 : decode cX6_putOrder 28 = .ok (.iload_n 2, 1) := by decide +kernel
theorem d_X6_putOrder_29 : decode cX6_putOrder 29 = .ok (.iload_n 3, 1) := by decide +kernel
theorem d_X6_putOrder_30 : decode cX6_putOrder 30 = .ok (.iload 4, 2) := by decide +kernel
theorem d_X6_putOrder_32 : decode cX6_putOrder 32 = .ok (.invokevirtual 109, 3) := by decide +kernel
theorem d_X6_putOrder_35 : decode cX6_putOrder 35 = .ok (.aload_n 0, 1) := by decide +kernel
theorem d_X6_putOrder_36 : decode cX6_putOrder 36 = .ok (.dup, 1) := by decide +kernel
theorem d_X6_putOrder_37 : decode cX6_putOrder 37 = .ok (.getfield 58, 3) := by decide +kernel
theorem d_X6_putOrder_40 : decode cX6_putOrder 40 = .ok (.iconst 1, 1) := by decide +kernel
theorem d_X6_putOrder_41 : decode cX6_putOrder 41 = .ok (.iadd, 1) := by decide +kernel
theorem d_X6_putOrder_42 : decode cX6_putOrder 42 = .ok (.putfield 58, 3) := by decide +kernel
theorem d_X6_putOrder_45 : decode cX6_putOrder 45 = .ok (.iload 5, 2) := by decide +kernel
theorem d_X6_putOrder_47 : decode cX6_putOrder 47 = .ok (.ireturn, 1) := by decide +kernel
theorem d_X6_freeRobot_0 : decode cX6_freeRobot 0 = .ok (.aload_n 0, 1) := by decide +kernel
theorem d_X6_freeRobot_1 : decode cX6_freeRobot 1 = .ok (.getfield 28, 3) := by decide +kernel
theorem d_X6_freeRobot_4 : decode cX6_freeRobot 4 = .ok (.iload_n 1, 1) := by decide +kernel
theorem d_X6_freeRobot_5 : decode cX6_freeRobot 5 = .ok (.aaload, 1) := by decide +kernel
theorem d_X6_freeRobot_6 : decode cX6_freeRobot 6 = .ok (.getfield 112, 3) := by decide +kernel
theorem d_X6_freeRobot_9 : decode cX6_freeRobot 9 = .ok (.istore_n 2, 1) := by decide +kernel
theorem d_X6_freeRobot_10 : decode cX6_freeRobot 10 = .ok (.aload_n 0, 1) := by decide +kernel
theorem d_X6_freeRobot_11 : decode cX6_freeRobot 11 = .ok (.getfield 28, 3) := by decide +kernel
theorem d_X6_freeRobot_14 : decode cX6_freeRobot 14 = .ok (.iload_n 1, 1) := by decide +kernel
theorem d_X6_freeRobot_15 : decode cX6_freeRobot 15 = .ok (.aaload, 1) := by decide +kernel
theorem d_X6_freeRobot_16 : decode cX6_freeRobot 16 = .ok (.iconst (-1), 1) := by decide +kernel
theorem d_X6_freeRobot_17 : decode cX6_freeRobot 17 = .ok (.putfield 112, 3) := by decide +kernel
theorem d_X6_freeRobot_20 : decode cX6_freeRobot 20 = .ok (.aload_n 0, 1) := by decide +kernel
theorem d_X6_freeRobot_21 : decode cX6_freeRobot 21 = .ok (.iload_n 2, 1) := by decide +kernel
theorem d_X6_freeRobot_22 : decode cX6_freeRobot 22 = .ok (.invokevirtual 115, 3) := by decide +kernel
theorem d_X6_freeRobot_25 : decode cX6_freeRobot 25 = .ok (.ifCond .eq 13, 3) := by decide +kernel
theorem d_X6_freeRobot_28 : decode cX6_freeRobot 28 = .ok (.aload_n 0, 1) := by decide +kernel
theorem d_X6_freeRobot_29 : decode cX6_freeRobot 29 = .ok (.getfield 35, 3) := by decide +kernel
theorem d_X6_freeRobot_32 : decode cX6_freeRobot 32 = .ok (.iload_n 2, 1) := by decide +kernel
theorem d_X6_freeRobot_33 : decode cX6_freeRobot 33 = .ok (.aaload, 1) := by decide +kernel
theorem d_X6_freeRobot_34 : decode cX6_freeRobot 34 = .ok (.iconst 0, 1) := by decide +kernel
theorem d_X6_freeRobot_35 : decode cX6_freeRobot 35 = .ok (.putfield 118, 3) := by decide +kernel
theorem d_X6_freeRobot_38 : decode cX6_freeRobot 38 = .ok (.iload_n 2, 1) := by decide +kernel
theorem d_X6_freeRobot_39 : decode cX6_freeRobot 39 = .ok (.ireturn, 1) := by decide +kernel
theorem d_X6_robotThere_0 : decode cX6_robotThere 0 = .ok (.iconst 0, 1) := by decide +kernel
theorem d_X6_robotThere_1 : decode cX6_robotThere 1 = .ok (.istore_n 3, 1) := by decide +kernel
theorem d_X6_robotThere_2 : decode cX6_robotThere 2 = .ok (.aload_n 0, 1) := by decide +kernel
theorem d_X6_robotThere_3 : decode cX6_robotThere 3 = .ok (.iload_n 3, 1) := by decide +kernel
theorem d_X6_robotThere_4 : decode cX6_robotThere 4 = .ok (.invokevirtual 106, 3) := by decide +kernel
theorem d_X6_robotThere_7 : decode cX6_robotThere 7 = .ok (.ifCond .eq 31, 3) := by decide +kernel
theorem d_X6_robotThere_10 : decode cX6_robotThere 10 = .ok (.iload_n 3, 1) := by decide +kernel
theorem d_X6_robotThere_11 : decode cX6_robotThere 11 = .ok (.bipush 6, 2) := by decide +kernel
theorem d_X6_robotThere_13 : decode cX6_robotThere 13 = .ok (.if_icmp .ge 25, 3) := by decide +kernel
theorem d_X6_robotThere_16 : decode cX6_robotThere 16 = .ok (.aload_n 0, 1) := by decide +kernel
theorem d_X6_robotThere_17 : decode cX6_robotThere 17 = .ok (.getfield 28, 3) := by decide +kernel
theorem d_X6_robotThere_20 : decode cX6_robotThere 20 = .ok (.iload_n 3, 1) := by decide +kernel
theorem d_X6_robotThere_21 : decode cX6_robotThere 21 = .ok (.aaload, 1) := by decide +kernel
theorem d_X6_robotThere_22 : decode cX6_robotThere 22 = .ok (.iload_n 2, 1) := by decide +kernel
theorem d_X6_robotThere_23 : decode cX6_robotThere 23 = .ok (.invokevirtual 121, 3) := by decide +kernel
theorem d_X6_robotThere_26 : decode cX6_robotThere 26 = .ok (.iload_n 1, 1) := by decide +kernel
theorem d_X6_robotThere_27 : decode cX6_robotThere 27 = .ok (.if_icmp .ne 5, 3) := by decide +kernel
theorem d_X6_robotThere_30 : decode cX6_robotThere 30 = .ok (.iload_n 3, 1) := by decide +kernel
theorem d_X6_robotThere_31 : decode cX6_robotThere 31 = .ok (.ireturn, 1) := by decide +kernel
theorem d_X6_robotThere_32 : decode cX6_robotThere 32 = .ok (.iinc 3 1, 3) := by decide +kernel
theorem d_X6_robotThere_35 : decode cX6_robotThere 35 = .ok (.goto (-33), 3) := by decide +kernel
theorem d_X6_robotThere_38 : decode cX6_robotThere 38 = .ok (.iconst (-1), 1) := by decide +kernel
theorem d_X6_robotThere_39 : decode cX6_robotThere 39 = .ok (.ireturn, 1) := by decide +kernel
theorem d_X6_lowestRobotEverIn_0 : decode cX6_lowestRobotEverIn 0 = .ok (.iconst 0, 1) := by decide +kernel
theorem d_X6_lowestRobotEverIn_1 : decode cX6_lowestRobotEverIn 1 = .ok (.istore_n 3, 1) := by decide +kernel
theorem d_X6_lowestRobotEverIn_2 : decode cX6_lowestRobotEverIn 2 = .ok (.aload_n 0, 1) := by decide +kernel
theorem d_X6_lowestRobotEverIn_3 : decode cX6_lowestRobotEverIn 3 = .ok (.iload_n 3, 1) := by decide +kernel
theorem d_X6_lowestRobotEverIn_4 : decode cX6_lowestRobotEverIn 4 = .ok (.invokevirtual 106, 3) := by decide +kernel
theorem d_X6_lowestRobotEverIn_7 : decode cX6_lowestRobotEverIn 7 = .ok (.ifCond .eq 35, 3) := by decide +kernel
theorem d_X6_lowestRobotEverIn_10 : decode cX6_lowestRobotEverIn 10 = .ok (.iload_n 3, 1) := by decide +kernel
theorem d_X6_lowestRobotEverIn_11 : decode cX6_lowestRobotEverIn 11 = .ok (.bipush 6, 2) := by decide +kernel
theorem d_X6_lowestRobotEverIn_13 : decode cX6_lowestRobotEverIn 13 = .ok (.if_icmp .ge 29, 3) := by decide +kernel
theorem d_X6_lowestRobotEverIn_16 : decode cX6_lowestRobotEverIn 16 = .ok (.iload_n 3, 1) := by decide +kernel
theorem d_X6_lowestRobotEverIn_17 : decode cX6_lowestRobotEverIn 17 = .ok (.iload_n 2, 1) := by decide +kernel
theorem d_X6_lowestRobotEverIn_18 : decode cX6_lowestRobotEverIn 18 = .ok (.if_icmp .eq 18, 3) := by decide +kernel
theorem d_X6_lowestRobotEverIn_21 : decode cX6_lowestRobotEverIn 21 = .ok (.aload_n 0, 1) := by decide +kernel
theorem d_X6_lowestRobotEverIn_22 : decode cX6_lowestRobotEverIn 22 = .ok (.getfield 28, 3) := by decide +kernel
theorem d_X6_lowestRobotEverIn_25 : decode cX6_lowestRobotEverIn 25 = .ok (.iload_n 3, 1) := by decide +kernel
theorem d_X6_lowestRobotEverIn_26 : decode cX6_lowestRobotEverIn 26 = .ok (.aaload, 1) := by decide +kernel
theorem d_X6_lowestRobotEverIn_27 : decode cX6_lowestRobotEverIn 27 = .ok (.iload_n 1, 1) := by decide +kernel
theorem d_X6_lowestRobotEverIn_28 : decode cX6_lowestRobotEverIn 28 = .ok (.invokevirtual 124, 3) := by decide +kernel
theorem d_X6_lowestRobotEverIn_31 : decode cX6_lowestRobotEverIn 31 = .ok (.ifCond .eq 5, 3) := by decide +kernel
theorem d_X6_lowestRobotEverIn_34 : decode cX6_lowestRobotEverIn 34 = .ok (.iload_n 3, 1) := by decide +kernel
theorem d_X6_lowestRobotEverIn_35 : decode cX6_lowestRobotEverIn 35 = .ok (.ireturn, 1) := by decide +kernel
theorem d_X6_lowestRobotEverIn_36 : decode cX6_lowestRobotEverIn 36 = .ok (.iinc 3 1, 3) := by decide +kernel
theorem d_X6_lowestRobotEverIn_39 : decode cX6_lowestRobotEverIn 39 = .ok (.goto (-37), 3) := by decide +kernel
theorem d_X6_lowestRobotEverIn_42 : decode cX6_lowestRobotEverIn 42 = .ok (.iconst (-1), 1) := by decide +kernel
theorem d_X6_lowestRobotEverIn_43 : decode cX6_lowestRobotEverIn 43 = .ok (.ireturn, 1) := by decide +kernel
theorem d_X6_robotWith_0 : decode cX6_robotWith 0 = .ok (.iconst 0, 1) := by decide +kernel
theorem d_X6_robotWith_1 : decode cX6_robotWith 1 = .ok (.istore_n 2, 1) := by decide +kernel
theorem d_X6_robotWith_2 : decode cX6_robotWith 2 = .ok (.aload_n 0, 1) := by decide +kernel
theorem d_X6_robotWith_3 : decode cX6_robotWith 3 = .ok (.iload_n 2, 1) := by decide +kernel
theorem d_X6_robotWith_4 : decode cX6_robotWith 4 = .ok (.invokevirtual 106, 3) := by decide +kernel
theorem d_X6_robotWith_7 : decode cX6_robotWith 7 = .ok (.ifCond .eq 30, 3) := by decide +kernel
theorem d_X6_robotWith_10 : decode cX6_robotWith 10 = .ok (.iload_n 2, 1) := by decide +kernel
theorem d_X6_robotWith_11 : decode cX6_robotWith 11 = .ok (.bipush 6, 2) := by decide +kernel
theorem d_X6_robotWith_13 : decode cX6_robotWith 13 = .ok (.if_icmp .ge 24, 3) := by decide +kernel
theorem d_X6_robotWith_16 : decode cX6_robotWith 16 = .ok (.aload_n 0, 1) := by decide +kernel
theorem d_X6_robotWith_17 : decode cX6_robotWith 17 = .ok (.getfield 28, 3) := by decide +kernel
theorem d_X6_robotWith_20 : decode cX6_robotWith 20 = .ok (.iload_n 2, 1) := by decide +kernel
theorem d_X6_robotWith_21 : decode cX6_robotWith 21 = .ok (.aaload, 1) := by decide +kernel
theorem d_X6_robotWith_22 : decode cX6_robotWith 22 = .ok (.getfield 112, 3) := by decide +kernel
theorem d_X6_robotWith_25 : decode cX6_robotWith 25 = .ok (.iload_n 1, 1) := by decide +kernel
theorem d_X6_robotWith_26 : decode cX6_robotWith 26 = .ok (.if_icmp .ne 5, 3) := by decide +kernel
theorem d_X6_robotWith_29 : decode cX6_robotWith 29 = .ok (.iload_n 2, 1) := by decide +kernel
theorem d_X6_robotWith_30 : decode cX6_robotWith 30 = .ok (.ireturn, 1) := by decide +kernel
theorem d_X6_robotWith_31 : decode cX6_robotWith 31 = .ok (.iinc 2 1, 3) := by decide +kernel
theorem d_X6_robotWith_34 : decode cX6_robotWith 34 = .ok (.goto (-32), 3) := by decide +kernel
theorem d_X6_robotWith_37 : decode cX6_robotWith 37 = .ok (.iconst (-1), 1) := by decide +kernel
theorem d_X6_robotWith_38 : decode cX6_robotWith 38 = .ok (.ireturn, 1) := by decide +kernel
theorem d_X6_stateOf_0 : decode cX6_stateOf 0 = .ok (.aload_n 0, 1) := by decide +kernel
theorem d_X6_stateOf_1 : decode cX6_stateOf 1 = .ok (.iload_n 1, 1) := by decide +kernel
theorem d_X6_stateOf_2 : decode cX6_stateOf 2 = .ok (.invokevirtual 115, 3) := by decide +kernel
theorem d_X6_stateOf_5 : decode cX6_stateOf 5 = .ok (.ifCond .eq 18, 3) := by decide +kernel
theorem d_X6_stateOf_8 : decode cX6_stateOf 8 = .ok (.aload_n 0, 1) := by decide +kernel
theorem d_X6_stateOf_9 : decode cX6_stateOf 9 = .ok (.getfield 35, 3) := by decide +kernel
theorem d_X6_stateOf_12 : decode cX6_stateOf 12 = .ok (.iload_n 1, 1) := by decide +kernel
theorem d_X6_stateOf_13 : decode cX6_stateOf 13 = .ok (.aaload, 1) := by decide +kernel
theorem d_X6_stateOf_14 : decode cX6_stateOf 14 = .ok (.getfield 127, 3) := by decide +kernel
theorem d_X6_stateOf_17 : decode cX6_stateOf 17 = .ok (.iconst (-1), 1) := by decide +kernel
theorem d_X6_stateOf_18 : decode cX6_stateOf 18 = .ok (.if_icmp .eq 5, 3) := by decide +kernel
theorem d_X6_stateOf_21 : decode cX6_stateOf 21 = .ok (.iconst 2, 1) := by decide +kernel
theorem d_X6_stateOf_22 : decode cX6_stateOf 22 = .ok (.ireturn, 1) := by decide +kernel
theorem d_X6_stateOf_23 : decode cX6_stateOf 23 = .ok (.aload_n 0, 1) := by decide +kernel
theorem d_X6_stateOf_24 : decode cX6_stateOf 24 = .ok (.iload_n 1, 1) := by decide +kernel
theorem d_X6_stateOf_25 : decode cX6_stateOf 25 = .ok (.invokevirtual 130, 3) := by decide +kernel
theorem d_X6_stateOf_28 : decode cX6_stateOf 28 = .ok (.iconst (-1), 1) := by decide +kernel
theorem d_X6_stateOf_29 : decode cX6_stateOf 29 = .ok (.if_icmp .ne 7, 3) := by decide +kernel
theorem d_X6_stateOf_32 : decode cX6_stateOf 32 = .ok (.iconst 0, 1) := by decide +kernel
theorem d_X6_stateOf_33 : decode cX6_stateOf 33 = .ok (.goto 4, 3) := by decide +kernel
theorem d_X6_stateOf_36 : decode cX6_stateOf 36 = .ok (.iconst 1, 1) := by decide +kernel
theorem d_X6_stateOf_37 : decode cX6_stateOf 37 = .ok (.ireturn, 1) := by decide +kernel
theorem d_X6_ordersIn_0 : decode cX6_ordersIn 0 = .ok (.iconst 0, 1) := by decide +kernel
theorem d_X6_ordersIn_1 : decode cX6_ordersIn 1 = .ok (.istore_n 2, 1) := by decide +kernel
theorem d_X6_ordersIn_2 : decode cX6_ordersIn 2 = .ok (.iconst 0, 1) := by decide +kernel
theorem d_X6_ordersIn_3 : decode cX6_ordersIn 3 = .ok (.istore_n 3, 1) := by decide +kernel
theorem d_X6_ordersIn_4 : decode cX6_ordersIn 4 = .ok (.aload_n 0, 1) := by decide +kernel
theorem d_X6_ordersIn_5 : decode cX6_ordersIn 5 = .ok (.iload_n 3, 1) := by decide +kernel
theorem d_X6_ordersIn_6 : decode cX6_ordersIn 6 = .ok (.invokevirtual 115, 3) := by decide +kernel
theorem d_X6_ordersIn_9 : decode cX6_ordersIn 9 = .ok (.ifCond .eq 27, 3) := by decide +kernel
theorem d_X6_ordersIn_12 : decode cX6_ordersIn 12 = .ok (.iload_n 3, 1) := by decide +kernel
theorem d_X6_ordersIn_13 : decode cX6_ordersIn 13 = .ok (.bipush 10, 2) := by decide +kernel
theorem d_X6_ordersIn_15 : decode cX6_ordersIn 15 = .ok (.if_icmp .ge 21, 3) := by decide +kernel
theorem d_X6_ordersIn_18 : decode cX6_ordersIn 18 = .ok (.aload_n 0, 1) := by decide +kernel
theorem d_X6_ordersIn_19 : decode cX6_ordersIn 19 = .ok (.iload_n 3, 1) := by decide +kernel
theorem d_X6_ordersIn_20 : decode cX6_ordersIn 20 = .ok (.invokevirtual 133, 3) := by decide +kernel
theorem d_X6_ordersIn_23 : decode cX6_ordersIn 23 = .ok (.iload_n 1, 1) := by decide +kernel
theorem d_X6_ordersIn_24 : decode cX6_ordersIn 24 = .ok (.if_icmp .ne 6, 3) := by decide +kernel
theorem d_X6_ordersIn_27 : decode cX6_ordersIn 27 = .ok (.iinc 2 1, 3) := by decide +kernel
theorem d_X6_ordersIn_30 : decode cX6_ordersIn 30 = .ok (.iinc 3 1, 3) := by decide +kernel
theorem d_X6_ordersIn_33 : decode cX6_ordersIn 33 = .ok (.goto (-29), 3) := by decide +kernel
theorem d_X6_ordersIn_36 : decode cX6_ordersIn 36 = .ok (.iload_n 2, 1) := by decide +kernel
theorem d_X6_ordersIn_37 : decode cX6_ordersIn 37 = .ok (.ireturn, 1) := by decide +kernel
theorem d_X6_waitingOrder_0 : decode cX6_waitingOrder 0 = .ok (.iconst 0, 1) := by decide +kernel
theorem d_X6_waitingOrder_1 : decode cX6_waitingOrder 1 = .ok (.istore_n 2, 1) := by decide +kernel
theorem d_X6_waitingOrder_2 : decode cX6_waitingOrder 2 = .ok (.aload_n 0, 1) := by decide +kernel
theorem d_X6_waitingOrder_3 : decode cX6_waitingOrder 3 = .ok (.iload_n 2, 1) := by decide +kernel
theorem d_X6_waitingOrder_4 : decode cX6_waitingOrder 4 = .ok (.invokevirtual 115, 3) := by decide +kernel
theorem d_X6_waitingOrder_7 : decode cX6_waitingOrder 7 = .ok (.ifCond .eq 34, 3) := by decide +kernel
theorem d_X6_waitingOrder_10 : decode cX6_waitingOrder 10 = .ok (.iload_n 2, 1) := by decide +kernel
theorem d_X6_waitingOrder_11 : decode cX6_waitingOrder 11 = .ok (.bipush 10, 2) := by decide +kernel
theorem d_X6_waitingOrder_13 : decode cX6_waitingOrder 13 = .ok (.if_icmp .ge 28, 3) := by decide +kernel
theorem d_X6_waitingOrder_16 : decode cX6_waitingOrder 16 = .ok (.aload_n 0, 1) := by decide +kernel
theorem d_X6_waitingOrder_17 : decode cX6_waitingOrder 17 = .ok (.iload_n 2, 1) := by decide +kernel
theorem d_X6_waitingOrder_18 : decode cX6_waitingOrder 18 = .ok (.invokevirtual 133, 3) := by decide +kernel
theorem d_X6_waitingOrder_21 : decode cX6_waitingOrder 21 = .ok (.ifCond .ne 14, 3) := by decide +kernel
theorem d_X6_waitingOrder_24 : decode cX6_waitingOrder 24 = .ok (.aload_n 0, 1) := by decide +kernel
theorem d_X6_waitingOrder_25 : decode cX6_waitingOrder 25 = .ok (.iload_n 2, 1) := by decide +kernel
theorem d_X6_waitingOrder_26 : decode cX6_waitingOrder 26 = .ok (.invokevirtual 136, 3) := by decide +kernel
theorem d_X6_waitingOrder_29 : decode cX6_waitingOrder 29 = .ok (.iload_n 1, 1) := by decide +kernel
theorem d_X6_waitingOrder_30 : decode cX6_waitingOrder 30 = .ok (.if_icmp .ne 5, 3) := by decide +kernel
theorem d_X6_waitingOrder_33 : decode cX6_waitingOrder 33 = .ok (.iload_n 2, 1) := by decide +kernel
theorem d_X6_waitingOrder_34 : decode cX6_waitingOrder 34 = .ok (.ireturn, 1) := by decide +kernel
theorem d_X6_waitingOrder_35 : decode cX6_waitingOrder 35 = .ok (.iinc 2 1, 3) := by decide +kernel
theorem d_X6_waitingOrder_38 : decode cX6_waitingOrder 38 = .ok (.goto (-36), 3) := by decide +kernel
theorem d_X6_waitingOrder_41 : decode cX6_waitingOrder 41 = .ok (.iconst (-1), 1) := by decide +kernel
theorem d_X6_waitingOrder_42 : decode cX6_waitingOrder 42 = .ok (.ireturn, 1) := by decide +kernel
theorem d_X6_waitingBefore_0 : decode cX6_waitingBefore 0 = .ok (.iconst 0, 1) := by decide +kernel
theorem d_X6_waitingBefore_1 : decode cX6_waitingBefore 1 = .ok (.istore_n 2, 1) := by decide +kernel
theorem d_X6_waitingBefore_2 : decode cX6_waitingBefore 2 = .ok (.iconst 0, 1) := by decide +kernel
theorem d_X6_waitingBefore_3 : decode cX6_waitingBefore 3 = .ok (.istore_n 3, 1) := by decide +kernel
theorem d_X6_waitingBefore_4 : decode cX6_waitingBefore 4 = .ok (.aload_n 0, 1) := by decide +kernel
theorem d_X6_waitingBefore_5 : decode cX6_waitingBefore 5 = .ok (.iload_n 3, 1) := by decide +kernel
theorem d_X6_waitingBefore_6 : decode cX6_waitingBefore 6 = .ok (.invokevirtual 115, 3) := by decide +kernel
theorem d_X6_waitingBefore_9 : decode cX6_waitingBefore 9 = .ok (.ifCond .eq 35, 3) := by decide +kernel
theorem d_X6_waitingBefore_12 : decode cX6_waitingBefore 12 = .ok (.iload_n 3, 1) := by decide +kernel
theorem d_X6_waitingBefore_13 : decode cX6_waitingBefore 13 = .ok (.bipush 10, 2) := by decide +kernel
theorem d_X6_waitingBefore_15 : decode cX6_waitingBefore 15 = .ok (.if_icmp .ge 29, 3) := by decide +kernel
theorem d_X6_waitingBefore_18 : decode cX6_waitingBefore 18 = .ok (.aload_n 0, 1) := by decide +kernel
theorem d_X6_waitingBefore_19 : decode cX6_waitingBefore 19 = .ok (.iload_n 3, 1) := by decide +kernel
theorem d_X6_waitingBefore_20 : decode cX6_waitingBefore 20 = .ok (.invokevirtual 133, 3) := by decide +kernel
theorem d_X6_waitingBefore_23 : decode cX6_waitingBefore 23 = .ok (.ifCond .ne 15, 3) := by decide +kernel
theorem d_X6_waitingBefore_26 : decode cX6_waitingBefore 26 = .ok (.aload_n 0, 1) := by decide +kernel
theorem d_X6_waitingBefore_27 : decode cX6_waitingBefore 27 = .ok (.iload_n 3, 1) := by decide +kernel
theorem d_X6_waitingBefore_28 : decode cX6_waitingBefore 28 = .ok (.iload_n 1, 1) := by decide +kernel
theorem d_X6_waitingBefore_29 : decode cX6_waitingBefore 29 = .ok (.invokevirtual 139, 3) := by decide +kernel
theorem d_X6_waitingBefore_32 : decode cX6_waitingBefore 32 = .ok (.ifCond .eq 6, 3) := by decide +kernel
theorem d_X6_waitingBefore_35 : decode cX6_waitingBefore 35 = .ok (.iinc 2 1, 3) := by decide +kernel
theorem d_X6_waitingBefore_38 : decode cX6_waitingBefore 38 = .ok (.iinc 3 1, 3) := by decide +kernel
theorem d_X6_waitingBefore_41 : decode cX6_waitingBefore 41 = .ok (.goto (-37), 3) := by decide +kernel
theorem d_X6_waitingBefore_44 : decode cX6_waitingBefore 44 = .ok (.iload_n 2, 1) := by decide +kernel
theorem d_X6_waitingBefore_45 : decode cX6_waitingBefore 45 = .ok (.ireturn, 1) := by decide +kernel
theorem d_X6_isRankedBefore_0 : decode cX6_isRankedBefore 0 = .ok (.aload_n 0, 1) := by decide +kernel
theorem d_X6_isRankedBefore_1 : decode cX6_isRankedBefore 1 = .ok (.getfield 35, 3) := by decide +kernel
theorem d_X6_isRankedBefore_4 : decode cX6_isRankedBefore 4 = .ok (.iload_n 1, 1) := by decide +kernel
theorem d_X6_isRankedBefore_5 : decode cX6_isRankedBefore 5 = .ok (.aaload, 1) := by decide +kernel
theorem d_X6_isRankedBefore_6 : decode cX6_isRankedBefore 6 = .ok (.getfield 143, 3) := by decide +kernel
theorem d_X6_isRankedBefore_9 : decode cX6_isRankedBefore 9 = .ok (.aload_n 0, 1) := by decide +kernel
theorem d_X6_isRankedBefore_10 : decode cX6_isRankedBefore 10 = .ok (.getfield 35, 3) := by decide +kernel
theorem d_X6_isRankedBefore_13 : decode cX6_isRankedBefore 13 = .ok (.iload_n 2, 1) := by decide +kernel
theorem d_X6_isRankedBefore_14 : decode cX6_isRankedBefore 14 = .ok (.aaload, 1) := by decide +kernel
theorem d_X6_isRankedBefore_15 : decode cX6_isRankedBefore 15 = .ok (.getfield 143, 3) := by decide +kernel
theorem d_X6_isRankedBefore_18 : decode cX6_isRankedBefore 18 = .ok (.if_icmp .eq 30, 3) := by decide +kernel
theorem d_X6_isRankedBefore_21 : decode cX6_isRankedBefore 21 = .ok (.aload_n 0, 1) := by decide +kernel
theorem d_X6_isRankedBefore_22 : decode cX6_isRankedBefore 22 = .ok (.getfield 35, 3) := by decide +kernel
theorem d_X6_isRankedBefore_25 : decode cX6_isRankedBefore 25 = .ok (.iload_n 1, 1) := by decide +kernel
theorem d_X6_isRankedBefore_26 : decode cX6_isRankedBefore 26 = .ok (.aaload, 1) := by decide +kernel
theorem d_X6_isRankedBefore_27 : decode cX6_isRankedBefore 27 = .ok (.getfield 143, 3) := by decide +kernel
theorem d_X6_isRankedBefore_30 : decode cX6_isRankedBefore 30 = .ok (.aload_n 0, 1) := by decide +kernel
theorem d_X6_isRankedBefore_31 : decode cX6_isRankedBefore 31 = .ok (.getfield 35, 3) := by decide +kernel
theorem d_X6_isRankedBefore_34 : decode cX6_isRankedBefore 34 = .ok (.iload_n 2, 1) := by decide +kernel
theorem d_X6_isRankedBefore_35 : decode cX6_isRankedBefore 35 = .ok (.aaload, 1) := by decide +kernel
theorem d_X6_isRankedBefore_36 : decode cX6_isRankedBefore 36 = .ok (.getfield 143, 3) := by decide +kernel
theorem d_X6_isRankedBefore_39 : decode cX6_isRankedBefore 39 = .ok (.if_icmp .ge 7, 3) := by decide +kernel
theorem d_X6_isRankedBefore_42 : decode cX6_isRankedBefore 42 = .ok (.iconst 1, 1) := by decide +kernel
theorem d_X6_isRankedBefore_43 : decode cX6_isRankedBefore 43 = .ok (.goto 4, 3) := by decide +kernel
theorem d_X6_isRankedBefore_46 : decode cX6_isRankedBefore 46 = .ok (.iconst 0, 1) := by decide +kernel
theorem d_X6_isRankedBefore_47 : decode cX6_isRankedBefore 47 = .ok (.ireturn, 1) := by decide +kernel
theorem d_X6_isRankedBefore_48 : decode cX6_isRankedBefore 48 = .ok (.aload_n 0, 1) := by decide +kernel
theorem d_X6_isRankedBefore_49 : decode cX6_isRankedBefore 49 = .ok (.getfield 35, 3) := by decide +kernel
theorem d_X6_isRankedBefore_52 : decode cX6_isRankedBefore 52 = .ok (.iload_n 1, 1) := by decide +kernel
theorem d_X6_isRankedBefore_53 : decode cX6_isRankedBefore 53 = .ok (.aaload, 1) := by decide +kernel
theorem d_X6_isRankedBefore_54 : decode cX6_isRankedBefore 54 = .ok (.invokevirtual 146, 3) := by decide +kernel
theorem d_X6_isRankedBefore_57 : decode cX6_isRankedBefore 57 = .ok (.aload_n 0, 1) := by decide +kernel
theorem d_X6_isRankedBefore_58 : decode cX6_isRankedBefore 58 = .ok (.getfield 35, 3) := by decide +kernel
theorem d_X6_isRankedBefore_61 : decode cX6_isRankedBefore 61 = .ok (.iload_n 2, 1) := by decide +kernel
theorem d_X6_isRankedBefore_62 : decode cX6_isRankedBefore 62 = .ok (.aaload, 1) := by decide +kernel
theorem d_X6_isRankedBefore_63 : decode cX6_isRankedBefore 63 = .ok (.invokevirtual 146, 3) := by decide +kernel
theorem d_X6_isRankedBefore_66 : decode cX6_isRankedBefore 66 = .ok (.if_icmp .eq 30, 3) := by decide +kernel
theorem d_X6_isRankedBefore_69 : decode cX6_isRankedBefore 69 = .ok (.aload_n 0, 1) := by decide +kernel
theorem d_X6_isRankedBefore_70 : decode cX6_isRankedBefore 70 = .ok (.getfield 35, 3) := by decide +kernel
theorem d_X6_isRankedBefore_73 : decode cX6_isRankedBefore 73 = .ok (.iload_n 1, 1) := by decide +kernel
theorem d_X6_isRankedBefore_74 : decode cX6_isRankedBefore 74 = .ok (.aaload, 1) := by decide +kernel
theorem d_X6_isRankedBefore_75 : decode cX6_isRankedBefore 75 = .ok (.invokevirtual 146, 3) := by decide +kernel
theorem d_X6_isRankedBefore_78 : decode cX6_isRankedBefore 78 = .ok (.aload_n 0, 1) := by decide +kernel
theorem d_X6_isRankedBefore_79 : decode cX6_isRankedBefore 79 = .ok (.getfield 35, 3) := by decide +kernel
theorem d_X6_isRankedBefore_82 : decode cX6_isRankedBefore 82 = .ok (.iload_n 2, 1) := by decide +kernel
theorem d_X6_isRankedBefore_83 : decode cX6_isRankedBefore 83 = .ok (.aaload, 1) := by decide +kernel
theorem d_X6_isRankedBefore_84 : decode cX6_isRankedBefore 84 = .ok (.invokevirtual 146, 3) := by decide +kernel
theorem d_X6_isRankedBefore_87 : decode cX6_isRankedBefore 87 = .ok (.if_icmp .le 7, 3) := by decide +kernel
theorem d_X6_isRankedBefore_90 : decode cX6_isRankedBefore 90 = .ok (.iconst 1, 1) := by decide +kernel
theorem d_X6_isRankedBefore_91 : decode cX6_isRankedBefore 91 = .ok (.goto 4, 3) := by decide +kernel
theorem d_X6_isRankedBefore_94 : decode cX6_isRankedBefore 94 = .ok (.iconst 0, 1) := by decide +kernel
theorem d_X6_isRankedBefore_95 : decode cX6_isRankedBefore 95 = .ok (.ireturn, 1) := by decide +kernel
theorem d_X6_isRankedBefore_96 : decode cX6_isRankedBefore 96 = .ok (.iload_n 1, 1) := by decide +kernel
theorem d_X6_isRankedBefore_97 : decode cX6_isRankedBefore 97 = .ok (.iload_n 2, 1) := by decide +kernel
theorem d_X6_isRankedBefore_98 : decode cX6_isRankedBefore 98 = .ok (.if_icmp .ge 7, 3) := by decide +kernel
theorem d_X6_isRankedBefore_101 : decode cX6_isRankedBefore 101 = .ok (.iconst 1, 1) := by decide +kernel
theorem d_X6_isRankedBefore_102 : decode cX6_isRankedBefore 102 = .ok (.goto 4, 3) := by decide +kernel
theorem d_X6_isRankedBefore_105 : decode cX6_isRankedBefore 105 = .ok (.iconst 0, 1) := by decide +kernel
theorem d_X6_isRankedBefore_106 : decode cX6_isRankedBefore 106 = .ok (.ireturn, 1) := by decide +kernel
theorem d_X6_isLoaded_0 : decode cX6_isLoaded 0 = .ok (.aload_n 0, 1) := by decide +kernel
theorem d_X6_isLoaded_1 : decode cX6_isLoaded 1 = .ok (.getfield 28, 3) := by decide +kernel
theorem d_X6_isLoaded_4 : decode cX6_isLoaded 4 = .ok (.iload_n 1, 1) := by decide +kernel
theorem d_X6_isLoaded_5 : decode cX6_isLoaded 5 = .ok (.aaload, 1) := by decide +kernel
theorem d_X6_isLoaded_6 : decode cX6_isLoaded 6 = .ok (.getfield 112, 3) := by decide +kernel
theorem d_X6_isLoaded_9 : decode cX6_isLoaded 9 = .ok (.istore_n 2, 1) := by decide +kernel
theorem d_X6_isLoaded_10 : decode cX6_isLoaded 10 = .ok (.aload_n 0, 1) := by decide +kernel
theorem d_X6_isLoaded_11 : decode cX6_isLoaded 11 = .ok (.iload_n 2, 1) := by decide +kernel
theorem d_X6_isLoaded_12 : decode cX6_isLoaded 12 = .ok (.invokevirtual 115, 3) := by decide +kernel
theorem d_X6_isLoaded_15 : decode cX6_isLoaded 15 = .ok (.ifCond .eq 19, 3) := by decide +kernel
theorem d_X6_isLoaded_18 : decode cX6_isLoaded 18 = .ok (.aload_n 0, 1) := by decide +kernel
theorem d_X6_isLoaded_19 : decode cX6_isLoaded 19 = .ok (.getfield 35, 3) := by decide +kernel
theorem d_X6_isLoaded_22 : decode cX6_isLoaded 22 = .ok (.iload_n 2, 1) := by decide +kernel
theorem d_X6_isLoaded_23 : decode cX6_isLoaded 23 = .ok (.aaload, 1) := by decide +kernel
theorem d_X6_isLoaded_24 : decode cX6_isLoaded 24 = .ok (.getfield 118, 3) := by decide +kernel
theorem d_X6_isLoaded_27 : decode cX6_isLoaded 27 = .ok (.ifCond .le 7, 3) := by decide +kernel
theorem d_X6_isLoaded_30 : decode cX6_isLoaded 30 = .ok (.iconst 1, 1) := by decide +kernel
theorem d_X6_isLoaded_31 : decode cX6_isLoaded 31 = .ok (.goto 4, 3) := by decide +kernel
theorem d_X6_isLoaded_34 : decode cX6_isLoaded 34 = .ok (.iconst 0, 1) := by decide +kernel
theorem d_X6_isLoaded_35 : decode cX6_isLoaded 35 = .ok (.ireturn, 1) := by decide +kernel
theorem d_X6_stepCost_0 : decode cX6_stepCost 0 = .ok (.aload_n 0, 1) := by decide +kernel
theorem d_X6_stepCost_1 : decode cX6_stepCost 1 = .ok (.iload_n 1, 1) := by decide +kernel
theorem d_X6_stepCost_2 : decode cX6_stepCost 2 = .ok (.invokevirtual 149, 3) := by decide +kernel
theorem d_X6_stepCost_5 : decode cX6_stepCost 5 = .ok (.ifCond .eq 12, 3) := by decide +kernel
theorem d_X6_stepCost_8 : decode cX6_stepCost 8 = .ok (.aload_n 0, 1) := by decide +kernel
theorem d_X6_stepCost_9 : decode cX6_stepCost 9 = .ok (.getfield 40, 3) := by decide +kernel
theorem d_X6_stepCost_12 : decode cX6_stepCost 12 = .ok (.iconst 1, 1) := by decide +kernel
theorem d_X6_stepCost_13 : decode cX6_stepCost 13 = .ok (.iaload, 1) := by decide +kernel
theorem d_X6_stepCost_14 : decode cX6_stepCost 14 = .ok (.goto 4, 3) := by decide +kernel
theorem d_X6_stepCost_17 : decode cX6_stepCost 17 = .ok (.iconst 1, 1) := by decide +kernel
theorem d_X6_stepCost_18 : decode cX6_stepCost 18 = .ok (.ireturn, 1) := by decide +kernel
theorem d_X6_loadedCount_0 : decode cX6_loadedCount 0 = .ok (.iconst 0, 1) := by decide +kernel
theorem d_X6_loadedCount_1 : decode cX6_loadedCount 1 = .ok (.istore_n 1, 1) := by decide +kernel
theorem d_X6_loadedCount_2 : decode cX6_loadedCount 2 = .ok (.iconst 0, 1) := by decide +kernel
theorem d_X6_loadedCount_3 : decode cX6_loadedCount 3 = .ok (.istore_n 2, 1) := by decide +kernel
theorem d_X6_loadedCount_4 : decode cX6_loadedCount 4 = .ok (.aload_n 0, 1) := by decide +kernel
theorem d_X6_loadedCount_5 : decode cX6_loadedCount 5 = .ok (.iload_n 2, 1) := by decide +kernel
theorem d_X6_loadedCount_6 : decode cX6_loadedCount 6 = .ok (.invokevirtual 106, 3) := by decide +kernel
theorem d_X6_loadedCount_9 : decode cX6_loadedCount 9 = .ok (.ifCond .eq 26, 3) := by decide +kernel
theorem d_X6_loadedCount_12 : decode cX6_loadedCount 12 = .ok (.iload_n 2, 1) := by decide +kernel
theorem d_X6_loadedCount_13 : decode cX6_loadedCount 13 = .ok (.bipush 6, 2) := by decide +kernel
theorem d_X6_loadedCount_15 : decode cX6_loadedCount 15 = .ok (.if_icmp .ge 20, 3) := by decide +kernel
theorem d_X6_loadedCount_18 : decode cX6_loadedCount 18 = .ok (.aload_n 0, 1) := by decide +kernel
theorem d_X6_loadedCount_19 : decode cX6_loadedCount 19 = .ok (.iload_n 2, 1) := by decide +kernel
theorem d_X6_loadedCount_20 : decode cX6_loadedCount 20 = .ok (.invokevirtual 149, 3) := by decide +kernel
theorem d_X6_loadedCount_23 : decode cX6_loadedCount 23 = .ok (.ifCond .eq 6, 3) := by decide +kernel
theorem d_X6_loadedCount_26 : decode cX6_loadedCount 26 = .ok (.iinc 1 1, 3) := by decide +kernel
theorem d_X6_loadedCount_29 : decode cX6_loadedCount 29 = .ok (.iinc 2 1, 3) := by decide +kernel
theorem d_X6_loadedCount_32 : decode cX6_loadedCount 32 = .ok (.goto (-28), 3) := by decide +kernel
theorem d_X6_loadedCount_35 : decode cX6_loadedCount 35 = .ok (.iload_n 1, 1) := by decide +kernel
theorem d_X6_loadedCount_36 : decode cX6_loadedCount 36 = .ok (.ireturn, 1) := by decide +kernel
theorem d_X6_stepSum_0 : decode cX6_stepSum 0 = .ok (.iconst 0, 1) := by decide +kernel
theorem d_X6_stepSum_1 : decode cX6_stepSum 1 = .ok (.istore_n 1, 1) := by decide +kernel
theorem d_X6_stepSum_2 : decode cX6_stepSum 2 = .ok (.iconst 0, 1) := by decide +kernel
theorem d_X6_stepSum_3 : decode cX6_stepSum 3 = .ok (.istore_n 2, 1) := by decide +kernel
theorem d_X6_stepSum_4 : decode cX6_stepSum 4 = .ok (.aload_n 0, 1) := by decide +kernel
theorem d_X6_stepSum_5 : decode cX6_stepSum 5 = .ok (.iload_n 2, 1) := by decide +kernel
theorem d_X6_stepSum_6 : decode cX6_stepSum 6 = .ok (.invokevirtual 106, 3) := by decide +kernel
theorem d_X6_stepSum_9 : decode cX6_stepSum 9 = .ok (.ifCond .eq 27, 3) := by decide +kernel
theorem d_X6_stepSum_12 : decode cX6_stepSum 12 = .ok (.iload_n 2, 1) := by decide +kernel
theorem d_X6_stepSum_13 : decode cX6_stepSum 13 = .ok (.bipush 6, 2) := by decide +kernel
theorem d_X6_stepSum_15 : decode cX6_stepSum 15 = .ok (.if_icmp .ge 21, 3) := by decide +kernel
theorem d_X6_stepSum_18 : decode cX6_stepSum 18 = .ok (.iload_n 1, 1) := by decide +kernel
theorem d_X6_stepSum_19 : decode cX6_stepSum 19 = .ok (.aload_n 0, 1) := by decide +kernel
theorem d_X6_stepSum_20 : decode cX6_stepSum 20 = .ok (.getfield 28, 3) := by decide +kernel
theorem d_X6_stepSum_23 : decode cX6_stepSum 23 = .ok (.iload_n 2, 1) := by decide +kernel
theorem d_X6_stepSum_24 : decode cX6_stepSum 24 = .ok (.aaload, 1) := by decide +kernel
theorem d_X6_stepSum_25 : decode cX6_stepSum 25 = .ok (.getfield 152, 3) := by decide +kernel
theorem d_X6_stepSum_28 : decode cX6_stepSum 28 = .ok (.iadd, 1) := by decide +kernel
theorem d_X6_stepSum_29 : decode cX6_stepSum 29 = .ok (.istore_n 1, 1) := by decide +kernel
theorem d_X6_stepSum_30 : decode cX6_stepSum 30 = .ok (.iinc 2 1, 3) := by decide +kernel
theorem d_X6_stepSum_33 : decode cX6_stepSum 33 = .ok (.goto (-29), 3) := by decide +kernel
theorem d_X6_stepSum_36 : decode cX6_stepSum 36 = .ok (.iload_n 1, 1) := by decide +kernel
theorem d_X6_stepSum_37 : decode cX6_stepSum 37 = .ok (.ireturn, 1) := by decide +kernel
theorem d_X6_batterySum_0 : decode cX6_batterySum 0 = .ok (.iconst 0, 1) := by decide +kernel
theorem d_X6_batterySum_1 : decode cX6_batterySum 1 = .ok (.istore_n 1, 1) := by decide +kernel
theorem d_X6_batterySum_2 : decode cX6_batterySum 2 = .ok (.iconst 0, 1) := by decide +kernel
theorem d_X6_batterySum_3 : decode cX6_batterySum 3 = .ok (.istore_n 2, 1) := by decide +kernel
theorem d_X6_batterySum_4 : decode cX6_batterySum 4 = .ok (.aload_n 0, 1) := by decide +kernel
theorem d_X6_batterySum_5 : decode cX6_batterySum 5 = .ok (.iload_n 2, 1) := by decide +kernel
theorem d_X6_batterySum_6 : decode cX6_batterySum 6 = .ok (.invokevirtual 106, 3) := by decide +kernel
theorem d_X6_batterySum_9 : decode cX6_batterySum 9 = .ok (.ifCond .eq 27, 3) := by decide +kernel
theorem d_X6_batterySum_12 : decode cX6_batterySum 12 = .ok (.iload_n 2, 1) := by decide +kernel
theorem d_X6_batterySum_13 : decode cX6_batterySum 13 = .ok (.bipush 6, 2) := by decide +kernel
theorem d_X6_batterySum_15 : decode cX6_batterySum 15 = .ok (.if_icmp .ge 21, 3) := by decide +kernel
theorem d_X6_batterySum_18 : decode cX6_batterySum 18 = .ok (.iload_n 1, 1) := by decide +kernel
theorem d_X6_batterySum_19 : decode cX6_batterySum 19 = .ok (.aload_n 0, 1) := by decide +kernel
theorem d_X6_batterySum_20 : decode cX6_batterySum 20 = .ok (.getfield 28, 3) := by decide +kernel
theorem d_X6_batterySum_23 : decode cX6_batterySum 23 = .ok (.iload_n 2, 1) := by decide +kernel
theorem d_X6_batterySum_24 : decode cX6_batterySum 24 = .ok (.aaload, 1) := by decide +kernel
theorem d_X6_batterySum_25 : decode cX6_batterySum 25 = .ok (.getfield 155, 3) := by decide +kernel
theorem d_X6_batterySum_28 : decode cX6_batterySum 28 = .ok (.iadd, 1) := by decide +kernel
theorem d_X6_batterySum_29 : decode cX6_batterySum 29 = .ok (.istore_n 1, 1) := by decide +kernel
theorem d_X6_batterySum_30 : decode cX6_batterySum 30 = .ok (.iinc 2 1, 3) := by decide +kernel
theorem d_X6_batterySum_33 : decode cX6_batterySum 33 = .ok (.goto (-29), 3) := by decide +kernel
theorem d_X6_batterySum_36 : decode cX6_batterySum 36 = .ok (.iload_n 1, 1) := by decide +kernel
theorem d_X6_batterySum_37 : decode cX6_batterySum 37 = .ok (.ireturn, 1) := by decide +kernel
theorem d_X6_pickedSum_0 : decode cX6_pickedSum 0 = .ok (.iconst 0, 1) := by decide +kernel
theorem d_X6_pickedSum_1 : decode cX6_pickedSum 1 = .ok (.istore_n 1, 1) := by decide +kernel
theorem d_X6_pickedSum_2 : decode cX6_pickedSum 2 = .ok (.iconst 0, 1) := by decide +kernel
theorem d_X6_pickedSum_3 : decode cX6_pickedSum 3 = .ok (.istore_n 2, 1) := by decide +kernel
theorem d_X6_pickedSum_4 : decode cX6_pickedSum 4 = .ok (.aload_n 0, 1) := by decide +kernel
theorem d_X6_pickedSum_5 : decode cX6_pickedSum 5 = .ok (.iload_n 2, 1) := by decide +kernel
theorem d_X6_pickedSum_6 : decode cX6_pickedSum 6 = .ok (.invokevirtual 115, 3) := by decide +kernel
theorem d_X6_pickedSum_9 : decode cX6_pickedSum 9 = .ok (.ifCond .eq 27, 3) := by decide +kernel
theorem d_X6_pickedSum_12 : decode cX6_pickedSum 12 = .ok (.iload_n 2, 1) := by decide +kernel
theorem d_X6_pickedSum_13 : decode cX6_pickedSum 13 = .ok (.bipush 10, 2) := by decide +kernel
theorem d_X6_pickedSum_15 : decode cX6_pickedSum 15 = .ok (.if_icmp .ge 21, 3) := by decide +kernel
theorem d_X6_pickedSum_18 : decode cX6_pickedSum 18 = .ok (.iload_n 1, 1) := by decide +kernel
theorem d_X6_pickedSum_19 : decode cX6_pickedSum 19 = .ok (.aload_n 0, 1) := by decide +kernel
theorem d_X6_pickedSum_20 : decode cX6_pickedSum 20 = .ok (.getfield 35, 3) := by decide +kernel
theorem d_X6_pickedSum_23 : decode cX6_pickedSum 23 = .ok (.iload_n 2, 1) := by decide +kernel
theorem d_X6_pickedSum_24 : decode cX6_pickedSum 24 = .ok (.aaload, 1) := by decide +kernel
theorem d_X6_pickedSum_25 : decode cX6_pickedSum 25 = .ok (.getfield 118, 3) := by decide +kernel
theorem d_X6_pickedSum_28 : decode cX6_pickedSum 28 = .ok (.iadd, 1) := by decide +kernel
theorem d_X6_pickedSum_29 : decode cX6_pickedSum 29 = .ok (.istore_n 1, 1) := by decide +kernel
theorem d_X6_pickedSum_30 : decode cX6_pickedSum 30 = .ok (.iinc 2 1, 3) := by decide +kernel
theorem d_X6_pickedSum_33 : decode cX6_pickedSum 33 = .ok (.goto (-29), 3) := by decide +kernel
theorem d_X6_pickedSum_36 : decode cX6_pickedSum 36 = .ok (.iload_n 1, 1) := by decide +kernel
theorem d_X6_pickedSum_37 : decode cX6_pickedSum 37 = .ok (.ireturn, 1) := by decide +kernel
theorem d_X6_latenessSum_0 : decode cX6_latenessSum 0 = .ok (.iconst 0, 1) := by decide +kernel
theorem d_X6_latenessSum_1 : decode cX6_latenessSum 1 = .ok (.istore_n 1, 1) := by decide +kernel
theorem d_X6_latenessSum_2 : decode cX6_latenessSum 2 = .ok (.iconst 0, 1) := by decide +kernel
theorem d_X6_latenessSum_3 : decode cX6_latenessSum 3 = .ok (.istore_n 2, 1) := by decide +kernel
theorem d_X6_latenessSum_4 : decode cX6_latenessSum 4 = .ok (.aload_n 0, 1) := by decide +kernel
theorem d_X6_latenessSum_5 : decode cX6_latenessSum 5 = .ok (.iload_n 2, 1) := by decide +kernel
theorem d_X6_latenessSum_6 : decode cX6_latenessSum 6 = .ok (.invokevirtual 115, 3) := by decide +kernel
theorem d_X6_latenessSum_9 : decode cX6_latenessSum 9 = .ok (.ifCond .eq 50, 3) := by decide +kernel
theorem d_X6_latenessSum_12 : decode cX6_latenessSum 12 = .ok (.iload_n 2, 1) := by decide +kernel
theorem d_X6_latenessSum_13 : decode cX6_latenessSum 13 = .ok (.bipush 10, 2) := by decide +kernel
theorem d_X6_latenessSum_15 : decode cX6_latenessSum 15 = .ok (.if_icmp .ge 44, 3) := by decide +kernel
theorem d_X6_latenessSum_18 : decode cX6_latenessSum 18 = .ok (.aload_n 0, 1) := by decide +kernel
theorem d_X6_latenessSum_19 : decode cX6_latenessSum 19 = .ok (.getfield 35, 3) := by decide +kernel
theorem d_X6_latenessSum_22 : decode cX6_latenessSum 22 = .ok (.iload_n 2, 1) := by decide +kernel
theorem d_X6_latenessSum_23 : decode cX6_latenessSum 23 = .ok (.aaload, 1) := by decide +kernel
theorem d_X6_latenessSum_24 : decode cX6_latenessSum 24 = .ok (.getfield 127, 3) := by decide +kernel
theorem d_X6_latenessSum_27 : decode cX6_latenessSum 27 = .ok (.iconst (-1), 1) := by decide +kernel
theorem d_X6_latenessSum_28 : decode cX6_latenessSum 28 = .ok (.if_icmp .eq 25, 3) := by decide +kernel
theorem d_X6_latenessSum_31 : decode cX6_latenessSum 31 = .ok (.iload_n 1, 1) := by decide +kernel
theorem d_X6_latenessSum_32 : decode cX6_latenessSum 32 = .ok (.aload_n 0, 1) := by decide +kernel
theorem d_X6_latenessSum_33 : decode cX6_latenessSum 33 = .ok (.getfield 35, 3) := by decide +kernel
theorem d_X6_latenessSum_36 : decode cX6_latenessSum 36 = .ok (.iload_n 2, 1) := by decide +kernel
theorem d_X6_latenessSum_37 : decode cX6_latenessSum 37 = .ok (.aaload, 1) := by decide +kernel
theorem d_X6_latenessSum_38 : decode cX6_latenessSum 38 = .ok (.getfield 127, 3) := by decide +kernel
theorem d_X6_latenessSum_41 : decode cX6_latenessSum 41 = .ok (.aload_n 0, 1) := by decide +kernel
theorem d_X6_latenessSum_42 : decode cX6_latenessSum 42 = .ok (.getfield 35, 3) := by decide +kernel
theorem d_X6_latenessSum_45 : decode cX6_latenessSum 45 = .ok (.iload_n 2, 1) := by decide +kernel
theorem d_X6_latenessSum_46 : decode cX6_latenessSum 46 = .ok (.aaload, 1) := by decide +kernel
theorem d_X6_latenessSum_47 : decode cX6_latenessSum 47 = .ok (.getfield 143, 3) := by decide +kernel
theorem d_X6_latenessSum_50 : decode cX6_latenessSum 50 = .ok (.isub, 1) := by decide +kernel
theorem d_X6_latenessSum_51 : decode cX6_latenessSum 51 = .ok (.iadd, 1) := by decide +kernel
theorem d_X6_latenessSum_52 : decode cX6_latenessSum 52 = .ok (.istore_n 1, 1) := by decide +kernel
theorem d_X6_latenessSum_53 : decode cX6_latenessSum 53 = .ok (.iinc 2 1, 3) := by decide +kernel
theorem d_X6_latenessSum_56 : decode cX6_latenessSum 56 = .ok (.goto (-52), 3) := by decide +kernel
theorem d_X6_latenessSum_59 : decode cX6_latenessSum 59 = .ok (.iload_n 1, 1) := by decide +kernel
theorem d_X6_latenessSum_60 : decode cX6_latenessSum 60 = .ok (.ireturn, 1) := by decide +kernel
theorem d_X6_tick_0 : decode cX6_tick 0 = .ok (.aload_n 0, 1) := by decide +kernel
theorem d_X6_tick_1 : decode cX6_tick 1 = .ok (.dup, 1) := by decide +kernel
theorem d_X6_tick_2 : decode cX6_tick 2 = .ok (.getfield 52, 3) := by decide +kernel
theorem d_X6_tick_5 : decode cX6_tick 5 = .ok (.iconst 1, 1) := by decide +kernel
theorem d_X6_tick_6 : decode cX6_tick 6 = .ok (.iadd, 1) := by decide +kernel
theorem d_X6_tick_7 : decode cX6_tick 7 = .ok (.putfield 52, 3) := by decide +kernel
theorem d_X6_tick_10 : decode cX6_tick 10 = .ok (.iconst 0, 1) := by decide +kernel
theorem d_X6_tick_11 : decode cX6_tick 11 = .ok (.istore_n 1, 1) := by decide +kernel
theorem d_X6_tick_12 : decode cX6_tick 12 = .ok (.iconst 0, 1) := by decide +kernel
theorem d_X6_tick_13 : decode cX6_tick 13 = .ok (.istore_n 2, 1) := by decide +kernel
theorem d_X6_tick_14 : decode cX6_tick 14 = .ok (.aload_n 0, 1) := by decide +kernel
theorem d_X6_tick_15 : decode cX6_tick 15 = .ok (.iload_n 2, 1) := by decide +kernel
theorem d_X6_tick_16 : decode cX6_tick 16 = .ok (.invokevirtual 106, 3) := by decide +kernel
theorem d_X6_tick_19 : decode cX6_tick 19 = .ok (.ifCond .eq 89, 3) := by decide +kernel
theorem d_X6_tick_22 : decode cX6_tick 22 = .ok (.iload_n 2, 1) := by decide +kernel
theorem d_X6_tick_23 : decode cX6_tick 23 = .ok (.bipush 6, 2) := by decide +kernel
theorem d_X6_tick_25 : decode cX6_tick 25 = .ok (.if_icmp .ge 83, 3) := by decide +kernel
theorem d_X6_tick_28 : decode cX6_tick 28 = .ok (.aload_n 0, 1) := by decide +kernel
theorem d_X6_tick_29 : decode cX6_tick 29 = .ok (.getfield 28, 3) := by decide +kernel
theorem d_X6_tick_32 : decode cX6_tick 32 = .ok (.iload_n 2, 1) := by decide +kernel
theorem d_X6_tick_33 : decode cX6_tick 33 = .ok (.aaload, 1) := by decide +kernel
theorem d_X6_tick_34 : decode cX6_tick 34 = .ok (.astore_n 3, 1) := by decide +kernel
theorem d_X6_tick_35 : decode cX6_tick 35 = .ok (.aload_n 3, 1) := by decide +kernel
theorem d_X6_tick_36 : decode cX6_tick 36 = .ok (.getfield 158, 3) := by decide +kernel
theorem d_X6_tick_39 : decode cX6_tick 39 = .ok (.ifCond .le 29, 3) := by decide +kernel
theorem d_X6_tick_42 : decode cX6_tick 42 = .ok (.aload_n 3, 1) := by decide +kernel
theorem d_X6_tick_43 : decode cX6_tick 43 = .ok (.invokevirtual 161, 3) := by decide +kernel
theorem d_X6_tick_46 : decode cX6_tick 46 = .ok (.iload_n 1, 1) := by decide +kernel
theorem d_X6_tick_47 : decode cX6_tick 47 = .ok (.aload_n 3, 1) := by decide +kernel
theorem d_X6_tick_48 : decode cX6_tick 48 = .ok (.getfield 158, 3) := by decide +kernel
theorem d_X6_tick_51 : decode cX6_tick 51 = .ok (.ifCond .ne 11, 3) := by decide +kernel
theorem d_X6_tick_54 : decode cX6_tick 54 = .ok (.aload_n 0, 1) := by decide +kernel
theorem d_X6_tick_55 : decode cX6_tick 55 = .ok (.aload_n 3, 1) := by decide +kernel
theorem d_X6_tick_56 : decode cX6_tick 56 = .ok (.invokevirtual 164, 3) := by decide +kernel
theorem d_X6_tick_59 : decode cX6_tick 59 = .ok (.goto 4, 3) := by decide +kernel
theorem d_X6_tick_62 : decode cX6_tick 62 = .ok (.iconst 0, 1) := by decide +kernel
theorem d_X6_tick_63 : decode cX6_tick 63 = .ok (.iadd, 1) := by decide +kernel
theorem d_X6_tick_64 : decode cX6_tick 64 = .ok (.istore_n 1, 1) := by decide +kernel
theorem d_X6_tick_65 : decode cX6_tick 65 = .ok (.goto 37, 3) := by decide +kernel
theorem d_X6_tick_68 : decode cX6_tick 68 = .ok (.aload_n 0, 1) := by decide +kernel
theorem d_X6_tick_69 : decode cX6_tick 69 = .ok (.aload_n 3, 1) := by decide +kernel
theorem d_X6_tick_70 : decode cX6_tick 70 = .ok (.getfield 168, 3) := by decide +kernel
theorem d_X6_tick_73 : decode cX6_tick 73 = .ok (.invokevirtual 87, 3) := by decide +kernel
theorem d_X6_tick_76 : decode cX6_tick 76 = .ok (.ifCond .eq 26, 3) := by decide +kernel
theorem d_X6_tick_79 : decode cX6_tick 79 = .ok (.aload_n 0, 1) := by decide +kernel
theorem d_X6_tick_80 : decode cX6_tick 80 = .ok (.getfield 18, 3) := by decide +kernel
theorem d_X6_tick_83 : decode cX6_tick 83 = .ok (.aload_n 3, 1) := by decide +kernel
theorem d_X6_tick_84 : decode cX6_tick 84 = .ok (.getfield 168, 3) := by decide +kernel
theorem d_X6_tick_87 : decode cX6_tick 87 = .ok (.iaload, 1) := by decide +kernel
theorem d_X6_tick_88 : decode cX6_tick 88 = .ok (.iconst 2, 1) := by decide +kernel
theorem d_X6_tick_89 : decode cX6_tick 89 = .ok (.if_icmp .ne 13, 3) := by decide +kernel
theorem d_X6_tick_92 : decode cX6_tick 92 = .ok (.aload_n 3, 1) := by decide +kernel
theorem d_X6_tick_93 : decode cX6_tick 93 = .ok (.aload_n 0, 1) := by decide +kernel
theorem d_X6_tick_94 : decode cX6_tick 94 = .ok (.getfield 40, 3) := by decide +kernel
theorem d_X6_tick_97 : decode cX6_tick 97 = .ok (.iconst 0, 1) := by decide +kernel
theorem d_X6_tick_98 : decode cX6_tick 98 = .ok (.iaload, 1) := by decide +kernel
theorem d_X6_tick_99 : decode cX6_tick 99 = .ok (.invokevirtual 171, 3) := by decide +kernel
theorem d_X6_tick_102 : decode cX6_tick 102 = .ok (.iinc 2 1, 3) := by decide +kernel
theorem d_X6_tick_105 : decode cX6_tick 105 = .ok (.goto (-91), 3) := by decide +kernel
theorem d_X6_tick_108 : decode cX6_tick 108 = .ok (.iload_n 1, 1) := by decide +kernel
theorem d_X6_tick_109 : decode cX6_tick 109 = .ok (.ireturn, 1) := by decide +kernel
theorem d_X6_endPlan_0 : decode cX6_endPlan 0 = .ok (.aload_n 0, 1) := by decide +kernel
theorem d_X6_endPlan_1 : decode cX6_endPlan 1 = .ok (.aload_n 1, 1) := by decide +kernel
theorem d_X6_endPlan_2 : decode cX6_endPlan 2 = .ok (.getfield 112, 3) := by decide +kernel
theorem d_X6_endPlan_5 : decode cX6_endPlan 5 = .ok (.invokevirtual 115, 3) := by decide +kernel
theorem d_X6_endPlan_8 : decode cX6_endPlan 8 = .ok (.ifCond .eq 14, 3) := by decide +kernel
theorem d_X6_endPlan_11 : decode cX6_endPlan 11 = .ok (.aload_n 0, 1) := by decide +kernel
theorem d_X6_endPlan_12 : decode cX6_endPlan 12 = .ok (.aload_n 1, 1) := by decide +kernel
theorem d_X6_endPlan_13 : decode cX6_endPlan 13 = .ok (.getfield 168, 3) := by decide +kernel
theorem d_X6_endPlan_16 : decode cX6_endPlan 16 = .ok (.invokevirtual 87, 3) := by decide +kernel
theorem d_X6_endPlan_19 : decode cX6_endPlan 19 = .ok (.ifCond .ne 5, 3) := by decide +kernel
theorem d_X6_endPlan_22 : decode cX6_endPlan 22 = .ok (.iconst 0, 1) := by decide +kernel
theorem d_X6_endPlan_23 : decode cX6_endPlan 23 = .ok (.ireturn, 1) := by decide +kernel
theorem d_X6_endPlan_24 : decode cX6_endPlan 24 = .ok (.aload_n 0, 1) := by decide +kernel
theorem d_X6_endPlan_25 : decode cX6_endPlan 25 = .ok (.getfield 35, 3) := by decide +kernel
theorem d_X6_endPlan_28 : decode cX6_endPlan 28 = .ok (.aload_n 1, 1) := by decide +kernel
theorem d_X6_endPlan_29 : decode cX6_endPlan 29 = .ok (.getfield 112, 3) := by decide +kernel
theorem d_X6_endPlan_32 : decode cX6_endPlan 32 = .ok (.aaload, 1) := by decide +kernel
theorem d_X6_endPlan_33 : decode cX6_endPlan 33 = .ok (.astore_n 2, 1) := by decide +kernel
theorem d_X6_endPlan_34 : decode cX6_endPlan 34 = .ok (.aload_n 2, 1) := by decide +kernel
theorem d_X6_endPlan_35 : decode cX6_endPlan 35 = .ok (.aload_n 1, 1) := by decide +kernel
theorem d_X6_endPlan_36 : decode cX6_endPlan 36 = .ok (.getfield 168, 3) := by decide +kernel
theorem d_X6_endPlan_39 : decode cX6_endPlan 39 = .ok (.invokevirtual 175, 3) := by decide +kernel
theorem d_X6_endPlan_42 : decode cX6_endPlan 42 = .ok (.ifCond .eq 16, 3) := by decide +kernel
theorem d_X6_endPlan_45 : decode cX6_endPlan 45 = .ok (.aload_n 2, 1) := by decide +kernel
theorem d_X6_endPlan_46 : decode cX6_endPlan 46 = .ok (.dup, 1) := by decide +kernel
theorem d_X6_endPlan_47 : decode cX6_endPlan 47 = .ok (.getfield 118, 3) := by decide +kernel
theorem d_X6_endPlan_50 : decode cX6_endPlan 50 = .ok (.iconst 1, 1) := by decide +kernel
theorem d_X6_endPlan_51 : decode cX6_endPlan 51 = .ok (.iadd, 1) := by decide +kernel
theorem d_X6_endPlan_52 : decode cX6_endPlan 52 = .ok (.putfield 118, 3) := by decide +kernel
theorem d_X6_endPlan_55 : decode cX6_endPlan 55 = .ok (.goto 38, 3) := by decide +kernel
theorem d_X6_endPlan_58 : decode cX6_endPlan 58 = .ok (.aload_n 2, 1) := by decide +kernel
theorem d_X6_endPlan_59 : decode cX6_endPlan 59 = .ok (.invokevirtual 146, 3) := by decide +kernel
theorem d_X6_endPlan_62 : decode cX6_endPlan 62 = .ok (.ifCond .ne 31, 3) := by decide +kernel
theorem d_X6_endPlan_65 : decode cX6_endPlan 65 = .ok (.aload_n 0, 1) := by decide +kernel
theorem d_X6_endPlan_66 : decode cX6_endPlan 66 = .ok (.getfield 18, 3) := by decide +kernel
theorem d_X6_endPlan_69 : decode cX6_endPlan 69 = .ok (.aload_n 1, 1) := by decide +kernel
theorem d_X6_endPlan_70 : decode cX6_endPlan 70 = .ok (.getfield 168, 3) := by decide +kernel
theorem d_X6_endPlan_73 : decode cX6_endPlan 73 = .ok (.iaload, 1) := by decide +kernel
theorem d_X6_endPlan_74 : decode cX6_endPlan 74 = .ok (.iconst 3, 1) := by decide +kernel
theorem d_X6_endPlan_75 : decode cX6_endPlan 75 = .ok (.if_icmp .ne 18, 3) := by decide +kernel
theorem d_X6_endPlan_78 : decode cX6_endPlan 78 = .ok (.aload_n 2, 1) := by decide +kernel
theorem d_X6_endPlan_79 : decode cX6_endPlan 79 = .ok (.aload_n 0, 1) := by decide +kernel
theorem d_X6_endPlan_80 : decode cX6_endPlan 80 = .ok (.getfield 52, 3) := by decide +kernel
theorem d_X6_endPlan_83 : decode cX6_endPlan 83 = .ok (.putfield 127, 3) := by decide +kernel
theorem d_X6_endPlan_86 : decode cX6_endPlan 86 = .ok (.aload_n 1, 1) := by decide +kernel
theorem d_X6_endPlan_87 : decode cX6_endPlan 87 = .ok (.iconst (-1), 1) := by decide +kernel
theorem d_X6_endPlan_88 : decode cX6_endPlan 88 = .ok (.putfield 112, 3) := by decide +kernel
theorem d_X6_endPlan_91 : decode cX6_endPlan 91 = .ok (.iconst 1, 1) := by decide +kernel
theorem d_X6_endPlan_92 : decode cX6_endPlan 92 = .ok (.ireturn, 1) := by decide +kernel
theorem d_X6_endPlan_93 : decode cX6_endPlan 93 = .ok (.iconst 0, 1) := by decide +kernel
theorem d_X6_endPlan_94 : decode cX6_endPlan 94 = .ok (.ireturn, 1) := by decide +kernel
