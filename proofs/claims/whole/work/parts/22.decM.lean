/-! decode rows (printed by program) -/
theorem d_X8_init_0 : decode cX8_init 0 = .ok (.aload_n 0, 1) := by decide +kernel
theorem d_X8_init_1 : decode cX8_init 1 = .ok (.invokespecial 3, 3) := by decide +kernel
theorem d_X8_init_4 : decode cX8_init 4 = .ok (.aload_n 0, 1) := by decide +kernel
theorem d_X8_init_5 : decode cX8_init 5 = .ok (.sipush 400, 3) := by decide +kernel
theorem d_X8_init_8 : decode cX8_init 8 = .ok (.newarray .int, 2) := by decide +kernel
theorem d_X8_init_10 : decode cX8_init 10 = .ok (.putfield 9, 3) := by decide +kernel
theorem d_X8_init_13 : decode cX8_init 13 = .ok (.aload_n 0, 1) := by decide +kernel
theorem d_X8_init_14 : decode cX8_init 14 = .ok (.sipush 400, 3) := by decide +kernel
theorem d_X8_init_17 : decode cX8_init 17 = .ok (.newarray .int, 2) := by decide +kernel
theorem d_X8_init_19 : decode cX8_init 19 = .ok (.putfield 13, 3) := by decide +kernel
theorem d_X8_init_22 : decode cX8_init 22 = .ok (.aload_n 0, 1) := by decide +kernel
theorem d_X8_init_23 : decode cX8_init 23 = .ok (.sipush 3200, 3) := by decide +kernel
theorem d_X8_init_26 : decode cX8_init 26 = .ok (.newarray .int, 2) := by decide +kernel
theorem d_X8_init_28 : decode cX8_init 28 = .ok (.putfield 16, 3) := by decide +kernel
theorem d_X8_init_31 : decode cX8_init 31 = .ok (.aload_n 0, 1) := by decide +kernel
theorem d_X8_init_32 : decode cX8_init 32 = .ok (.iconst 3, 1) := by decide +kernel
theorem d_X8_init_33 : decode cX8_init 33 = .ok (.newarray .int, 2) := by decide +kernel
theorem d_X8_init_35 : decode cX8_init 35 = .ok (.putfield 19, 3) := by decide +kernel
theorem d_X8_init_38 : decode cX8_init 38 = .ok (.aload_n 0, 1) := by decide +kernel
theorem d_X8_init_39 : decode cX8_init 39 = .ok (.sipush 1488, 3) := by decide +kernel
theorem d_X8_init_42 : decode cX8_init 42 = .ok (.newarray .boolean, 2) := by decide +kernel
theorem d_X8_init_44 : decode cX8_init 44 = .ok (.putfield 22, 3) := by decide +kernel
theorem d_X8_init_47 : decode cX8_init 47 = .ok (.aload_n 0, 1) := by decide +kernel
theorem d_X8_init_48 : decode cX8_init 48 = .ok (.sipush 1488, 3) := by decide +kernel
theorem d_X8_init_51 : decode cX8_init 51 = .ok (.newarray .boolean, 2) := by decide +kernel
theorem d_X8_init_53 : decode cX8_init 53 = .ok (.putfield 26, 3) := by decide +kernel
theorem d_X8_init_56 : decode cX8_init 56 = .ok (.aload_n 0, 1) := by decide +kernel
theorem d_X8_init_57 : decode cX8_init 57 = .ok (.bipush 30, 2) := by decide +kernel
theorem d_X8_init_59 : decode cX8_init 59 = .ok (.newarray .int, 2) := by decide +kernel
theorem d_X8_init_61 : decode cX8_init 61 = .ok (.putfield 29, 3) := by decide +kernel
theorem d_X8_init_64 : decode cX8_init 64 = .ok (.aload_n 0, 1) := by decide +kernel
theorem d_X8_init_65 : decode cX8_init 65 = .ok (.bipush 48, 2) := by decide +kernel
theorem d_X8_init_67 : decode cX8_init 67 = .ok (.newarray .int, 2) := by decide +kernel
theorem d_X8_init_69 : decode cX8_init 69 = .ok (.putfield 32, 3) := by decide +kernel
theorem d_X8_init_72 : decode cX8_init 72 = .ok (.aload_n 0, 1) := by decide +kernel
theorem d_X8_init_73 : decode cX8_init 73 = .ok (.bipush 48, 2) := by decide +kernel
theorem d_X8_init_75 : decode cX8_init 75 = .ok (.newarray .int, 2) := by decide +kernel
theorem d_X8_init_77 : decode cX8_init 77 = .ok (.putfield 35, 3) := by decide +kernel
theorem d_X8_init_80 : decode cX8_init 80 = .ok (.aload_n 0, 1) := by decide +kernel
theorem d_X8_init_81 : decode cX8_init 81 = .ok (.sipush 2304, 3) := by decide +kernel
theorem d_X8_init_84 : decode cX8_init 84 = .ok (.newarray .int, 2) := by decide +kernel
theorem d_X8_init_86 : decode cX8_init 86 = .ok (.putfield 38, 3) := by decide +kernel
theorem d_X8_init_89 : decode cX8_init 89 = .ok (.aload_n 0, 1) := by decide +kernel
theorem d_X8_init_90 : decode cX8_init 90 = .ok (.bipush 60, 2) := by decide +kernel
theorem d_X8_init_92 : decode cX8_init 92 = .ok (.newarray .char, 2) := by decide +kernel
theorem d_X8_init_94 : decode cX8_init 94 = .ok (.putfield 41, 3) := by decide +kernel
theorem d_X8_init_97 : decode cX8_init 97 = .ok (.aload_n 0, 1) := by decide +kernel
theorem d_X8_init_98 : decode cX8_init 98 = .ok (.iconst (-1), 1) := by decide +kernel
theorem d_X8_init_99 : decode cX8_init 99 = .ok (.putfield 45, 3) := by decide +kernel
theorem d_X8_init_102 : decode cX8_init 102 = .ok (.aload_n 0, 1) := by decide +kernel
theorem d_X8_init_103 : decode cX8_init 103 = .ok (.getfield 9, 3) := by decide +kernel
theorem d_X8_init_106 : decode cX8_init 106 = .ok (.iconst 0, 1) := by decide +kernel
theorem d_X8_init_107 : decode cX8_init 107 = .ok (.iconst 1, 1) := by decide +kernel
theorem d_X8_init_108 : decode cX8_init 108 = .ok (.iastore, 1) := by decide +kernel
theorem d_X8_init_109 : decode cX8_init 109 = .ok (.aload_n 0, 1) := by decide +kernel
theorem d_X8_init_110 : decode cX8_init 110 = .ok (.getfield 9, 3) := by decide +kernel
theorem d_X8_init_113 : decode cX8_init 113 = .ok (.iconst 1, 1) := by decide +kernel
theorem d_X8_init_114 : decode cX8_init 114 = .ok (.iconst 2, 1) := by decide +kernel
theorem d_X8_init_115 : decode cX8_init 115 = .ok (.iastore, 1) := by decide +kernel
theorem d_X8_init_116 : decode cX8_init 116 = .ok (.aload_n 0, 1) := by decide +kernel
theorem d_X8_init_117 : decode cX8_init 117 = .ok (.getfield 9, 3) := by decide +kernel
theorem d_X8_init_120 : decode cX8_init 120 = .ok (.iconst 5, 1) := by decide +kernel
theorem d_X8_init_121 : decode cX8_init 121 = .ok (.iconst 5, 1) := by decide +kernel
theorem d_X8_init_122 : decode cX8_init 122 = .ok (.iastore, 1) := by decide +kernel
theorem d_X8_init_123 : decode cX8_init 123 = .ok (.aload_n 0, 1) := by decide +kernel
theorem d_X8_init_124 : decode cX8_init 124 = .ok (.getfield 9, 3) := by decide +kernel
theorem d_X8_init_127 : decode cX8_init 127 = .ok (.bipush 6, 2) := by decide +kernel
theorem d_X8_init_129 : decode cX8_init 129 = .ok (.iconst 2, 1) := by decide +kernel
theorem d_X8_init_130 : decode cX8_init 130 = .ok (.iastore, 1) := by decide +kernel
theorem d_X8_init_131 : decode cX8_init 131 = .ok (.aload_n 0, 1) := by decide +kernel
theorem d_X8_init_132 : decode cX8_init 132 = .ok (.getfield 9, 3) := by decide +kernel
theorem d_X8_init_135 : decode cX8_init 135 = .ok (.bipush 7, 2) := by decide +kernel
theorem d_X8_init_137 : decode cX8_init 137 = .ok (.bipush 30, 2) := by decide +kernel
theorem d_X8_init_139 : decode cX8_init 139 = .ok (.iastore, 1) := by decide +kernel
theorem d_X8_init_140 : decode cX8_init 140 = .ok (.return_, 1) := by decide +kernel
theorem d_X8_thrown_0 : decode cX8_thrown 0 = .ok (.aload_n 0, 1) := by decide +kernel
theorem d_X8_thrown_1 : decode cX8_thrown 1 = .ok (.getfield 49, 3) := by decide +kernel
theorem d_X8_thrown_4 : decode cX8_thrown 4 = .ok (.ireturn, 1) := by decide +kernel
theorem d_X8_in_0 : decode cX8_in 0 = .ok (.iload_n 0, 1) := by decide +kernel
theorem d_X8_in_1 : decode cX8_in 1 = .ok (.iload_n 1, 1) := by decide +kernel
theorem d_X8_in_2 : decode cX8_in 2 = .ok (.if_icmp .lt 12, 3) := by decide +kernel
theorem d_X8_in_5 : decode cX8_in 5 = .ok (.iload_n 0, 1) := by decide +kernel
theorem d_X8_in_6 : decode cX8_in 6 = .ok (.iload_n 2, 1) := by decide +kernel
theorem d_X8_in_7 : decode cX8_in 7 = .ok (.if_icmp .gt 7, 3) := by decide +kernel
theorem d_X8_in_10 : decode cX8_in 10 = .ok (.iconst 1, 1) := by decide +kernel
theorem d_X8_in_11 : decode cX8_in 11 = .ok (.goto 4, 3) := by decide +kernel
theorem d_X8_in_14 : decode cX8_in 14 = .ok (.iconst 0, 1) := by decide +kernel
theorem d_X8_in_15 : decode cX8_in 15 = .ok (.ireturn, 1) := by decide +kernel
theorem d_X8_change_0 : decode cX8_change 0 = .ok (.aload_n 0, 1) := by decide +kernel
theorem d_X8_change_1 : decode cX8_change 1 = .ok (.getfield 52, 3) := by decide +kernel
theorem d_X8_change_4 : decode cX8_change 4 = .ok (.bipush 8, 2) := by decide +kernel
theorem d_X8_change_6 : decode cX8_change 6 = .ok (.if_icmp .ne 31, 3) := by decide +kernel
theorem d_X8_change_9 : decode cX8_change 9 = .ok (.aload_n 0, 1) := by decide +kernel
theorem d_X8_change_10 : decode cX8_change 10 = .ok (.getfield 16, 3) := by decide +kernel
theorem d_X8_change_13 : decode cX8_change 13 = .ok (.sipush 400, 3) := by decide +kernel
theorem d_X8_change_16 : decode cX8_change 16 = .ok (.aload_n 0, 1) := by decide +kernel
theorem d_X8_change_17 : decode cX8_change 17 = .ok (.getfield 16, 3) := by decide +kernel
theorem d_X8_change_20 : decode cX8_change 20 = .ok (.iconst 0, 1) := by decide +kernel
theorem d_X8_change_21 : decode cX8_change 21 = .ok (.sipush 2800, 3) := by decide +kernel
theorem d_X8_change_24 : decode cX8_change 24 = .ok (.invokestatic 55, 3) := by decide +kernel
theorem d_X8_change_27 : decode cX8_change 27 = .ok (.aload_n 0, 1) := by decide +kernel
theorem d_X8_change_28 : decode cX8_change 28 = .ok (.dup, 1) := by decide +kernel
theorem d_X8_change_29 : decode cX8_change 29 = .ok (.getfield 52, 3) := by decide +kernel
theorem d_X8_change_32 : decode cX8_change 32 = .ok (.iconst 1, 1) := by decide +kernel
theorem d_X8_change_33 : decode cX8_change 33 = .ok (.isub, 1) := by decide +kernel
theorem d_X8_change_34 : decode cX8_change 34 = .ok (.putfield 52, 3) := by decide +kernel
theorem d_X8_change_37 : decode cX8_change 37 = .ok (.aload_n 0, 1) := by decide +kernel
theorem d_X8_change_38 : decode cX8_change 38 = .ok (.getfield 9, 3) := by decide +kernel
theorem d_X8_change_41 : decode cX8_change 41 = .ok (.iconst 0, 1) := by decide +kernel
theorem d_X8_change_42 : decode cX8_change 42 = .ok (.aload_n 0, 1) := by decide +kernel
theorem d_X8_change_43 : decode cX8_change 43 = .ok (.getfield 16, 3) := by decide +kernel
theorem d_X8_change_46 : decode cX8_change 46 = .ok (.sipush 400, 3) := by decide +kernel
theorem d_X8_change_49 : decode cX8_change 49 = .ok (.aload_n 0, 1) := by decide +kernel
theorem d_X8_change_50 : decode cX8_change 50 = .ok (.getfield 52, 3) := by decide +kernel
theorem d_X8_change_53 : decode cX8_change 53 = .ok (.imul, 1) := by decide +kernel
theorem d_X8_change_54 : decode cX8_change 54 = .ok (.sipush 400, 3) := by decide +kernel
theorem d_X8_change_57 : decode cX8_change 57 = .ok (.invokestatic 55, 3) := by decide +kernel
theorem d_X8_change_60 : decode cX8_change 60 = .ok (.aload_n 0, 1) := by decide +kernel
theorem d_X8_change_61 : decode cX8_change 61 = .ok (.dup, 1) := by decide +kernel
theorem d_X8_change_62 : decode cX8_change 62 = .ok (.getfield 52, 3) := by decide +kernel
theorem d_X8_change_65 : decode cX8_change 65 = .ok (.iconst 1, 1) := by decide +kernel
theorem d_X8_change_66 : decode cX8_change 66 = .ok (.iadd, 1) := by decide +kernel
theorem d_X8_change_67 : decode cX8_change 67 = .ok (.putfield 52, 3) := by decide +kernel
theorem d_X8_change_70 : decode cX8_change 70 = .ok (.return_, 1) := by decide +kernel
theorem d_X8_refuse_0 : decode cX8_refuse 0 = .ok (.aload_n 0, 1) := by decide +kernel
theorem d_X8_refuse_1 : decode cX8_refuse 1 = .ok (.iconst 1, 1) := by decide +kernel
theorem d_X8_refuse_2 : decode cX8_refuse 2 = .ok (.putfield 49, 3) := by decide +kernel
theorem d_X8_refuse_5 : decode cX8_refuse 5 = .ok (.aload_n 0, 1) := by decide +kernel
theorem d_X8_refuse_6 : decode cX8_refuse 6 = .ok (.iload_n 1, 1) := by decide +kernel
theorem d_X8_refuse_7 : decode cX8_refuse 7 = .ok (.putfield 61, 3) := by decide +kernel
theorem d_X8_refuse_10 : decode cX8_refuse 10 = .ok (.aload_n 0, 1) := by decide +kernel
theorem d_X8_refuse_11 : decode cX8_refuse 11 = .ok (.iload_n 2, 1) := by decide +kernel
theorem d_X8_refuse_12 : decode cX8_refuse 12 = .ok (.putfield 64, 3) := by decide +kernel
theorem d_X8_refuse_15 : decode cX8_refuse 15 = .ok (.iconst 0, 1) := by decide +kernel
theorem d_X8_refuse_16 : decode cX8_refuse 16 = .ok (.ireturn, 1) := by decide +kernel
theorem d_X8_cells_0 : decode cX8_cells 0 = .ok (.aload_n 0, 1) := by decide +kernel
theorem d_X8_cells_1 : decode cX8_cells 1 = .ok (.getfield 9, 3) := by decide +kernel
theorem d_X8_cells_4 : decode cX8_cells 4 = .ok (.iconst 0, 1) := by decide +kernel
theorem d_X8_cells_5 : decode cX8_cells 5 = .ok (.iaload, 1) := by decide +kernel
theorem d_X8_cells_6 : decode cX8_cells 6 = .ok (.aload_n 0, 1) := by decide +kernel
theorem d_X8_cells_7 : decode cX8_cells 7 = .ok (.getfield 9, 3) := by decide +kernel
theorem d_X8_cells_10 : decode cX8_cells 10 = .ok (.iconst 1, 1) := by decide +kernel
theorem d_X8_cells_11 : decode cX8_cells 11 = .ok (.iaload, 1) := by decide +kernel
theorem d_X8_cells_12 : decode cX8_cells 12 = .ok (.imul, 1) := by decide +kernel
theorem d_X8_cells_13 : decode cX8_cells 13 = .ok (.ireturn, 1) := by decide +kernel
theorem d_X8_isCell_0 : decode cX8_isCell 0 = .ok (.iload_n 1, 1) := by decide +kernel
theorem d_X8_isCell_1 : decode cX8_isCell 1 = .ok (.iconst 0, 1) := by decide +kernel
theorem d_X8_isCell_2 : decode cX8_isCell 2 = .ok (.aload_n 0, 1) := by decide +kernel
theorem d_X8_isCell_3 : decode cX8_isCell 3 = .ok (.invokevirtual 67, 3) := by decide +kernel
theorem d_X8_isCell_6 : decode cX8_isCell 6 = .ok (.iconst 1, 1) := by decide +kernel
theorem d_X8_isCell_7 : decode cX8_isCell 7 = .ok (.isub, 1) := by decide +kernel
theorem d_X8_isCell_8 : decode cX8_isCell 8 = .ok (.invokestatic 71, 3) := by decide +kernel
theorem d_X8_isCell_11 : decode cX8_isCell 11 = .ok (.ireturn, 1) := by decide +kernel
theorem d_X8_canEnter_0 : decode cX8_canEnter 0 = .ok (.aload_n 0, 1) := by decide +kernel
theorem d_X8_canEnter_1 : decode cX8_canEnter 1 = .ok (.getfield 9, 3) := by decide +kernel
theorem d_X8_canEnter_4 : decode cX8_canEnter 4 = .ok (.bipush 8, 2) := by decide +kernel
theorem d_X8_canEnter_6 : decode cX8_canEnter 6 = .ok (.iload_n 1, 1) := by decide +kernel
theorem d_X8_canEnter_7 : decode cX8_canEnter 7 = .ok (.iadd, 1) := by decide +kernel
theorem d_X8_canEnter_8 : decode cX8_canEnter 8 = .ok (.iaload, 1) := by decide +kernel
theorem d_X8_canEnter_9 : decode cX8_canEnter 9 = .ok (.iconst 1, 1) := by decide +kernel
theorem d_X8_canEnter_10 : decode cX8_canEnter 10 = .ok (.if_icmp .eq 19, 3) := by decide +kernel
theorem d_X8_canEnter_13 : decode cX8_canEnter 13 = .ok (.aload_n 0, 1) := by decide +kernel
theorem d_X8_canEnter_14 : decode cX8_canEnter 14 = .ok (.getfield 9, 3) := by decide +kernel
theorem d_X8_canEnter_17 : decode cX8_canEnter 17 = .ok (.bipush 56, 2) := by decide +kernel
theorem d_X8_canEnter_19 : decode cX8_canEnter 19 = .ok (.iload_n 1, 1) := by decide +kernel
theorem d_X8_canEnter_20 : decode cX8_canEnter 20 = .ok (.iadd, 1) := by decide +kernel
theorem d_X8_canEnter_21 : decode cX8_canEnter 21 = .ok (.iaload, 1) := by decide +kernel
theorem d_X8_canEnter_22 : decode cX8_canEnter 22 = .ok (.ifCond .ne 7, 3) := by decide +kernel
theorem d_X8_canEnter_25 : decode cX8_canEnter 25 = .ok (.iconst 1, 1) := by decide +kernel
theorem d_X8_canEnter_26 : decode cX8_canEnter 26 = .ok (.goto 4, 3) := by decide +kernel
theorem d_X8_canEnter_29 : decode cX8_canEnter 29 = .ok (.iconst 0, 1) := by decide +kernel
theorem d_X8_canEnter_30 : decode cX8_canEnter 30 = .ok (.ireturn, 1) := by decide +kernel
theorem d_X8_beside_0 : decode cX8_beside 0 = .ok (.iload_n 1, 1) := by decide +kernel
theorem d_X8_beside_1 : decode cX8_beside 1 = .ok (.aload_n 0, 1) := by decide +kernel
theorem d_X8_beside_2 : decode cX8_beside 2 = .ok (.getfield 9, 3) := by decide +kernel
theorem d_X8_beside_5 : decode cX8_beside 5 = .ok (.iconst 1, 1) := by decide +kernel
theorem d_X8_beside_6 : decode cX8_beside 6 = .ok (.iaload, 1) := by decide +kernel
theorem d_X8_beside_7 : decode cX8_beside 7 = .ok (.idiv, 1) := by decide +kernel
theorem d_X8_beside_8 : decode cX8_beside 8 = .ok (.istore_n 3, 1) := by decide +kernel
theorem d_X8_beside_9 : decode cX8_beside 9 = .ok (.iload_n 1, 1) := by decide +kernel
theorem d_X8_beside_10 : decode cX8_beside 10 = .ok (.aload_n 0, 1) := by decide +kernel
theorem d_X8_beside_11 : decode cX8_beside 11 = .ok (.getfield 9, 3) := by decide +kernel
theorem d_X8_beside_14 : decode cX8_beside 14 = .ok (.iconst 1, 1) := by decide +kernel
theorem d_X8_beside_15 : decode cX8_beside 15 = .ok (.iaload, 1) := by decide +kernel
theorem d_X8_beside_16 : decode cX8_beside 16 = .ok (.irem, 1) := by decide +kernel
theorem d_X8_beside_17 : decode cX8_beside 17 = .ok (.istore 4, 2) := by decide +kernel
theorem d_X8_beside_19 : decode cX8_beside 19 = .ok (.iload_n 3, 1) := by decide +kernel
theorem d_X8_beside_20 : decode cX8_beside 20 = .ok (.iload_n 2, 1) := by decide +kernel
theorem d_X8_beside_21 : decode cX8_beside 21 = .ok (.ifCond .ne 7, 3) := by decide +kernel
theorem d_X8_beside_24 : decode cX8_beside 24 = .ok (.iconst (-1), 1) := by decide +kernel
theorem d_X8_beside_25 : decode cX8_beside 25 = .ok (.goto 13, 3) := by decide +kernel
theorem d_X8_beside_28 : decode cX8_beside 28 = .ok (.iload_n 2, 1) := by decide +kernel
theorem d_X8_beside_29 : decode cX8_beside 29 = .ok (.iconst 2, 1) := by decide +kernel
theorem d_X8_beside_30 : decode cX8_beside 30 = .ok (.if_icmp .ne 7, 3) := by decide +kernel
theorem d_X8_beside_33 : decode cX8_beside 33 = .ok (.iconst 1, 1) := by decide +kernel
theorem d_X8_beside_34 : decode cX8_beside 34 = .ok (.goto 4, 3) := by decide +kernel
theorem d_X8_beside_37 : decode cX8_beside 37 = .ok (.iconst 0, 1) := by decide +kernel
theorem d_X8_beside_38 : decode cX8_beside 38 = .ok (.iadd, 1) := by decide +kernel
theorem d_X8_beside_39 : decode cX8_beside 39 = .ok (.istore_n 3, 1) := by decide +kernel
theorem d_X8_beside_40 : decode cX8_beside 40 = .ok (.iload 4, 2) := by decide +kernel
theorem d_X8_beside_42 : decode cX8_beside 42 = .ok (.iload_n 2, 1) := by decide +kernel
theorem d_X8_beside_43 : decode cX8_beside 43 = .ok (.iconst 1, 1) := by decide +kernel
theorem d_X8_beside_44 : decode cX8_beside 44 = .ok (.if_icmp .ne 7, 3) := by decide +kernel
theorem d_X8_beside_47 : decode cX8_beside 47 = .ok (.iconst 1, 1) := by decide +kernel
theorem d_X8_beside_48 : decode cX8_beside 48 = .ok (.goto 13, 3) := by decide +kernel
theorem d_X8_beside_51 : decode cX8_beside 51 = .ok (.iload_n 2, 1) := by decide +kernel
theorem d_X8_beside_52 : decode cX8_beside 52 = .ok (.iconst 3, 1) := by decide +kernel
theorem d_X8_beside_53 : decode cX8_beside 53 = .ok (.if_icmp .ne 7, 3) := by decide +kernel
theorem d_X8_beside_56 : decode cX8_beside 56 = .ok (.iconst (-1), 1) := by decide +kernel
theorem d_X8_beside_57 : decode cX8_beside 57 = .ok (.goto 4, 3) := by decide +kernel
theorem d_X8_beside_60 : decode cX8_beside 60 = .ok (.iconst 0, 1) := by decide +kernel
theorem d_X8_beside_61 : decode cX8_beside 61 = .ok (.iadd, 1) := by decide +kernel
theorem d_X8_beside_62 : decode cX8_beside 62 = .ok (.istore 4, 2) := by decide +kernel
theorem d_X8_beside_64 : decode cX8_beside 64 = .ok (.iload_n 3, 1) := by decide +kernel
theorem d_X8_beside_65 : decode cX8_beside 65 = .ok (.iconst 0, 1) := by decide +kernel
theorem d_X8_beside_66 : decode cX8_beside 66 = .ok (.aload_n 0, 1) := by decide +kernel
theorem d_X8_beside_67 : decode cX8_beside 67 = .ok (.getfield 9, 3) := by decide +kernel
theorem d_X8_beside_70 : decode cX8_beside 70 = .ok (.iconst 0, 1) := by decide +kernel
theorem d_X8_beside_71 : decode cX8_beside 71 = .ok (.iaload, 1) := by decide +kernel
theorem d_X8_beside_72 : decode cX8_beside 72 = .ok (.iconst 1, 1) := by decide +kernel
theorem d_X8_beside_73 : decode cX8_beside 73 = .ok (.isub, 1) := by decide +kernel
theorem d_X8_beside_74 : decode cX8_beside 74 = .ok (.invokestatic 71, 3) := by decide +kernel
theorem d_X8_beside_77 : decode cX8_beside 77 = .ok (.ifCond .eq 34, 3) := by decide +kernel
theorem d_X8_beside_80 : decode cX8_beside 80 = .ok (.iload 4, 2) := by decide +kernel
theorem d_X8_beside_82 : decode cX8_beside 82 = .ok (.iconst 0, 1) := by decide +kernel
theorem d_X8_beside_83 : decode cX8_beside 83 = .ok (.aload_n 0, 1) := by decide +kernel
theorem d_X8_beside_84 : decode cX8_beside 84 = .ok (.getfield 9, 3) := by decide +kernel
theorem d_X8_beside_87 : decode cX8_beside 87 = .ok (.iconst 1, 1) := by decide +kernel
theorem d_X8_beside_88 : decode cX8_beside 88 = .ok (.iaload, 1) := by decide +kernel
theorem d_X8_beside_89 : decode cX8_beside 89 = .ok (.iconst 1, 1) := by decide +kernel
theorem d_X8_beside_90 : decode cX8_beside 90 = .ok (.isub, 1) := by decide +kernel
theorem d_X8_beside_91 : decode cX8_beside 91 = .ok (.invokestatic 71, 3) := by decide +kernel
theorem d_X8_beside_94 : decode cX8_beside 94 = .ok (.ifCond .eq 17, 3) := by decide +kernel
theorem d_X8_beside_97 : decode cX8_beside 97 = .ok (.aload_n 0, 1) := by decide +kernel
theorem d_X8_beside_98 : decode cX8_beside 98 = .ok (.getfield 9, 3) := by decide +kernel
theorem d_X8_beside_101 : decode cX8_beside 101 = .ok (.iconst 1, 1) := by decide +kernel
theorem d_X8_beside_102 : decode cX8_beside 102 = .ok (.iaload, 1) := by decide +kernel
theorem d_X8_beside_103 : decode cX8_beside 103 = .ok (.iload_n 3, 1) := by decide +kernel
theorem d_X8_beside_104 : decode cX8_beside 104 = .ok (.imul, 1) := by decide +kernel
theorem d_X8_beside_105 : decode cX8_beside 105 = .ok (.iload 4, 2) := by decide +kernel
theorem d_X8_beside_107 : decode cX8_beside 107 = .ok (.iadd, 1) := by decide +kernel
theorem d_X8_beside_108 : decode cX8_beside 108 = .ok (.goto 4, 3) := by decide +kernel
theorem d_X8_beside_111 : decode cX8_beside 111 = .ok (.iconst (-1), 1) := by decide +kernel
theorem d_X8_beside_112 : decode cX8_beside 112 = .ok (.ireturn, 1) := by decide +kernel
theorem d_X8_closedCells_0 : decode cX8_closedCells 0 = .ok (.iconst 0, 1) := by decide +kernel
theorem d_X8_closedCells_1 : decode cX8_closedCells 1 = .ok (.istore_n 1, 1) := by decide +kernel
theorem d_X8_closedCells_2 : decode cX8_closedCells 2 = .ok (.iconst 0, 1) := by decide +kernel
theorem d_X8_closedCells_3 : decode cX8_closedCells 3 = .ok (.istore_n 2, 1) := by decide +kernel
theorem d_X8_closedCells_4 : decode cX8_closedCells 4 = .ok (.iload_n 2, 1) := by decide +kernel
theorem d_X8_closedCells_5 : decode cX8_closedCells 5 = .ok (.aload_n 0, 1) := by decide +kernel
theorem d_X8_closedCells_6 : decode cX8_closedCells 6 = .ok (.invokevirtual 67, 3) := by decide +kernel
theorem d_X8_closedCells_9 : decode cX8_closedCells 9 = .ok (.if_icmp .ge 21, 3) := by decide +kernel
theorem d_X8_closedCells_12 : decode cX8_closedCells 12 = .ok (.iload_n 1, 1) := by decide +kernel
theorem d_X8_closedCells_13 : decode cX8_closedCells 13 = .ok (.aload_n 0, 1) := by decide +kernel
theorem d_X8_closedCells_14 : decode cX8_closedCells 14 = .ok (.getfield 9, 3) := by decide +kernel
theorem d_X8_closedCells_17 : decode cX8_closedCells 17 = .ok (.bipush 56, 2) := by decide +kernel
theorem d_X8_closedCells_19 : decode cX8_closedCells 19 = .ok (.iload_n 2, 1) := by decide +kernel
theorem d_X8_closedCells_20 : decode cX8_closedCells 20 = .ok (.iadd, 1) := by decide +kernel
theorem d_X8_closedCells_21 : decode cX8_closedCells 21 = .ok (.iaload, 1) := by decide +kernel
theorem d_X8_closedCells_22 : decode cX8_closedCells 22 = .ok (.iadd, 1) := by decide +kernel
theorem d_X8_closedCells_23 : decode cX8_closedCells 23 = .ok (.istore_n 1, 1) := by decide +kernel
theorem d_X8_closedCells_24 : decode cX8_closedCells 24 = .ok (.iinc 2 1, 3) := by decide +kernel
theorem d_X8_closedCells_27 : decode cX8_closedCells 27 = .ok (.goto (-23), 3) := by decide +kernel
theorem d_X8_closedCells_30 : decode cX8_closedCells 30 = .ok (.iload_n 1, 1) := by decide +kernel
theorem d_X8_closedCells_31 : decode cX8_closedCells 31 = .ok (.ireturn, 1) := by decide +kernel
theorem d_X8_isRobot_0 : decode cX8_isRobot 0 = .ok (.iload_n 1, 1) := by decide +kernel
theorem d_X8_isRobot_1 : decode cX8_isRobot 1 = .ok (.iconst 0, 1) := by decide +kernel
theorem d_X8_isRobot_2 : decode cX8_isRobot 2 = .ok (.aload_n 0, 1) := by decide +kernel
theorem d_X8_isRobot_3 : decode cX8_isRobot 3 = .ok (.getfield 9, 3) := by decide +kernel
theorem d_X8_isRobot_6 : decode cX8_isRobot 6 = .ok (.iconst 3, 1) := by decide +kernel
theorem d_X8_isRobot_7 : decode cX8_isRobot 7 = .ok (.iaload, 1) := by decide +kernel
theorem d_X8_isRobot_8 : decode cX8_isRobot 8 = .ok (.iconst 1, 1) := by decide +kernel
theorem d_X8_isRobot_9 : decode cX8_isRobot 9 = .ok (.isub, 1) := by decide +kernel
theorem d_X8_isRobot_10 : decode cX8_isRobot 10 = .ok (.invokestatic 71, 3) := by decide +kernel
theorem d_X8_isRobot_13 : decode cX8_isRobot 13 = .ok (.ireturn, 1) := by decide +kernel
theorem d_X8_at_0 : decode cX8_at 0 = .ok (.bipush 104, 2) := by decide +kernel
theorem d_X8_at_2 : decode cX8_at 2 = .ok (.bipush 36, 2) := by decide +kernel
theorem d_X8_at_4 : decode cX8_at 4 = .ok (.iload_n 0, 1) := by decide +kernel
theorem d_X8_at_5 : decode cX8_at 5 = .ok (.imul, 1) := by decide +kernel
theorem d_X8_at_6 : decode cX8_at 6 = .ok (.iadd, 1) := by decide +kernel
theorem d_X8_at_7 : decode cX8_at 7 = .ok (.ireturn, 1) := by decide +kernel
theorem d_X8_of_0 : decode cX8_of 0 = .ok (.aload_n 0, 1) := by decide +kernel
theorem d_X8_of_1 : decode cX8_of 1 = .ok (.getfield 9, 3) := by decide +kernel
theorem d_X8_of_4 : decode cX8_of 4 = .ok (.iload_n 1, 1) := by decide +kernel
theorem d_X8_of_5 : decode cX8_of 5 = .ok (.invokestatic 75, 3) := by decide +kernel
theorem d_X8_of_8 : decode cX8_of 8 = .ok (.iload_n 2, 1) := by decide +kernel
theorem d_X8_of_9 : decode cX8_of 9 = .ok (.iadd, 1) := by decide +kernel
theorem d_X8_of_10 : decode cX8_of 10 = .ok (.iaload, 1) := by decide +kernel
theorem d_X8_of_11 : decode cX8_of 11 = .ok (.ireturn, 1) := by decide +kernel
theorem d_X8_cellOf_0 : decode cX8_cellOf 0 = .ok (.aload_n 0, 1) := by decide +kernel
theorem d_X8_cellOf_1 : decode cX8_cellOf 1 = .ok (.iload_n 1, 1) := by decide +kernel
theorem d_X8_cellOf_2 : decode cX8_cellOf 2 = .ok (.iconst 3, 1) := by decide +kernel
theorem d_X8_cellOf_3 : decode cX8_cellOf 3 = .ok (.invokevirtual 79, 3) := by decide +kernel
theorem d_X8_cellOf_6 : decode cX8_cellOf 6 = .ok (.istore_n 3, 1) := by decide +kernel
theorem d_X8_cellOf_7 : decode cX8_cellOf 7 = .ok (.iload_n 2, 1) := by decide +kernel
theorem d_X8_cellOf_8 : decode cX8_cellOf 8 = .ok (.ifCond .eq 7, 3) := by decide +kernel
theorem d_X8_cellOf_11 : decode cX8_cellOf 11 = .ok (.iload_n 3, 1) := by decide +kernel
theorem d_X8_cellOf_12 : decode cX8_cellOf 12 = .ok (.ifCond .ne 12, 3) := by decide +kernel
theorem d_X8_cellOf_15 : decode cX8_cellOf 15 = .ok (.aload_n 0, 1) := by decide +kernel
theorem d_X8_cellOf_16 : decode cX8_cellOf 16 = .ok (.iload_n 1, 1) := by decide +kernel
theorem d_X8_cellOf_17 : decode cX8_cellOf 17 = .ok (.iconst 0, 1) := by decide +kernel
theorem d_X8_cellOf_18 : decode cX8_cellOf 18 = .ok (.invokevirtual 79, 3) := by decide +kernel
theorem d_X8_cellOf_21 : decode cX8_cellOf 21 = .ok (.goto 23, 3) := by decide +kernel
theorem d_X8_cellOf_24 : decode cX8_cellOf 24 = .ok (.aload_n 0, 1) := by decide +kernel
theorem d_X8_cellOf_25 : decode cX8_cellOf 25 = .ok (.iload_n 1, 1) := by decide +kernel
theorem d_X8_cellOf_26 : decode cX8_cellOf 26 = .ok (.bipush 6, 2) := by decide +kernel
theorem d_X8_cellOf_28 : decode cX8_cellOf 28 = .ok (.iload_n 2, 1) := by decide +kernel
theorem d_X8_cellOf_29 : decode cX8_cellOf 29 = .ok (.iload_n 3, 1) := by decide +kernel
theorem d_X8_cellOf_30 : decode cX8_cellOf 30 = .ok (.if_icmp .le 7, 3) := by decide +kernel
theorem d_X8_cellOf_33 : decode cX8_cellOf 33 = .ok (.iload_n 3, 1) := by decide +kernel
theorem d_X8_cellOf_34 : decode cX8_cellOf 34 = .ok (.goto 4, 3) := by decide +kernel
theorem d_X8_cellOf_37 : decode cX8_cellOf 37 = .ok (.iload_n 2, 1) := by decide +kernel
theorem d_X8_cellOf_38 : decode cX8_cellOf 38 = .ok (.iadd, 1) := by decide +kernel
theorem d_X8_cellOf_39 : decode cX8_cellOf 39 = .ok (.iconst 1, 1) := by decide +kernel
theorem d_X8_cellOf_40 : decode cX8_cellOf 40 = .ok (.isub, 1) := by decide +kernel
theorem d_X8_cellOf_41 : decode cX8_cellOf 41 = .ok (.invokevirtual 79, 3) := by decide +kernel
theorem d_X8_cellOf_44 : decode cX8_cellOf 44 = .ok (.ireturn, 1) := by decide +kernel
theorem d_X8_willBe_0 : decode cX8_willBe 0 = .ok (.iconst 0, 1) := by decide +kernel
theorem d_X8_willBe_1 : decode cX8_willBe 1 = .ok (.istore 4, 2) := by decide +kernel
theorem d_X8_willBe_3 : decode cX8_willBe 3 = .ok (.iload 4, 2) := by decide +kernel
theorem d_X8_willBe_5 : decode cX8_willBe 5 = .ok (.aload_n 0, 1) := by decide +kernel
theorem d_X8_willBe_6 : decode cX8_willBe 6 = .ok (.getfield 9, 3) := by decide +kernel
theorem d_X8_willBe_9 : decode cX8_willBe 9 = .ok (.iconst 3, 1) := by decide +kernel
theorem d_X8_willBe_10 : decode cX8_willBe 10 = .ok (.iaload, 1) := by decide +kernel
theorem d_X8_willBe_11 : decode cX8_willBe 11 = .ok (.if_icmp .ge 66, 3) := by decide +kernel
theorem d_X8_willBe_14 : decode cX8_willBe 14 = .ok (.iconst 0, 1) := by decide +kernel
theorem d_X8_willBe_15 : decode cX8_willBe 15 = .ok (.istore 5, 2) := by decide +kernel
theorem d_X8_willBe_17 : decode cX8_willBe 17 = .ok (.iload_n 2, 1) := by decide +kernel
theorem d_X8_willBe_18 : decode cX8_willBe 18 = .ok (.istore 6, 2) := by decide +kernel
theorem d_X8_willBe_20 : decode cX8_willBe 20 = .ok (.iload 6, 2) := by decide +kernel
theorem d_X8_willBe_22 : decode cX8_willBe 22 = .ok (.bipush 31, 2) := by decide +kernel
theorem d_X8_willBe_24 : decode cX8_willBe 24 = .ok (.if_icmp .gt 33, 3) := by decide +kernel
theorem d_X8_willBe_27 : decode cX8_willBe 27 = .ok (.iload 5, 2) := by decide +kernel
theorem d_X8_willBe_29 : decode cX8_willBe 29 = .ok (.ifCond .ne 15, 3) := by decide +kernel
theorem d_X8_willBe_32 : decode cX8_willBe 32 = .ok (.aload_n 0, 1) := by decide +kernel
theorem d_X8_willBe_33 : decode cX8_willBe 33 = .ok (.iload 4, 2) := by decide +kernel
theorem d_X8_willBe_35 : decode cX8_willBe 35 = .ok (.iload 6, 2) := by decide +kernel
theorem d_X8_willBe_37 : decode cX8_willBe 37 = .ok (.invokevirtual 83, 3) := by decide +kernel
theorem d_X8_willBe_40 : decode cX8_willBe 40 = .ok (.iload_n 1, 1) := by decide +kernel
theorem d_X8_willBe_41 : decode cX8_willBe 41 = .ok (.if_icmp .ne 7, 3) := by decide +kernel
theorem d_X8_willBe_44 : decode cX8_willBe 44 = .ok (.iconst 1, 1) := by decide +kernel
theorem d_X8_willBe_45 : decode cX8_willBe 45 = .ok (.goto 4, 3) := by decide +kernel
theorem d_X8_willBe_48 : decode cX8_willBe 48 = .ok (.iconst 0, 1) := by decide +kernel
theorem d_X8_willBe_49 : decode cX8_willBe 49 = .ok (.istore 5, 2) := by decide +kernel
theorem d_X8_willBe_51 : decode cX8_willBe 51 = .ok (.iinc 6 1, 3) := by decide +kernel
theorem d_X8_willBe_54 : decode cX8_willBe 54 = .ok (.goto (-34), 3) := by decide +kernel
theorem d_X8_willBe_57 : decode cX8_willBe 57 = .ok (.iload 5, 2) := by decide +kernel
theorem d_X8_willBe_59 : decode cX8_willBe 59 = .ok (.ifCond .eq 12, 3) := by decide +kernel
theorem d_X8_willBe_62 : decode cX8_willBe 62 = .ok (.iload 4, 2) := by decide +kernel
theorem d_X8_willBe_64 : decode cX8_willBe 64 = .ok (.iload_n 3, 1) := by decide +kernel
theorem d_X8_willBe_65 : decode cX8_willBe 65 = .ok (.if_icmp .eq 6, 3) := by decide +kernel
theorem d_X8_willBe_68 : decode cX8_willBe 68 = .ok (.iload 4, 2) := by decide +kernel
theorem d_X8_willBe_70 : decode cX8_willBe 70 = .ok (.ireturn, 1) := by decide +kernel
theorem d_X8_willBe_71 : decode cX8_willBe 71 = .ok (.iinc 4 1, 3) := by decide +kernel
theorem d_X8_willBe_74 : decode cX8_willBe 74 = .ok (.goto (-71), 3) := by decide +kernel
theorem d_X8_willBe_77 : decode cX8_willBe 77 = .ok (.iconst (-1), 1) := by decide +kernel
theorem d_X8_willBe_78 : decode cX8_willBe 78 = .ok (.ireturn, 1) := by decide +kernel
theorem d_X8_add_0 : decode cX8_add 0 = .ok (.aload_n 0, 1) := by decide +kernel
theorem d_X8_add_1 : decode cX8_add 1 = .ok (.iconst 0, 1) := by decide +kernel
theorem d_X8_add_2 : decode cX8_add 2 = .ok (.putfield 49, 3) := by decide +kernel
theorem d_X8_add_5 : decode cX8_add 5 = .ok (.aload_n 0, 1) := by decide +kernel
theorem d_X8_add_6 : decode cX8_add 6 = .ok (.iload_n 1, 1) := by decide +kernel
theorem d_X8_add_7 : decode cX8_add 7 = .ok (.invokevirtual 86, 3) := by decide +kernel
theorem d_X8_add_10 : decode cX8_add 10 = .ok (.ifCond .ne 10, 3) := by decide +kernel
theorem d_X8_add_13 : decode cX8_add 13 = .ok (.aload_n 0, 1) := by decide +kernel
theorem d_X8_add_14 : decode cX8_add 14 = .ok (.iconst 1, 1) := by decide +kernel
theorem d_X8_add_15 : decode cX8_add 15 = .ok (.iconst 0, 1) := by decide +kernel
theorem d_X8_add_16 : decode cX8_add 16 = .ok (.invokevirtual 90, 3) := by decide +kernel
theorem d_X8_add_19 : decode cX8_add 19 = .ok (.ireturn, 1) := by decide +kernel
theorem d_X8_add_20 : decode cX8_add 20 = .ok (.iload_n 2, 1) := by decide +kernel
theorem d_X8_add_21 : decode cX8_add 21 = .ok (.iconst 0, 1) := by decide +kernel
theorem d_X8_add_22 : decode cX8_add 22 = .ok (.bipush 99, 2) := by decide +kernel
theorem d_X8_add_24 : decode cX8_add 24 = .ok (.invokestatic 71, 3) := by decide +kernel
theorem d_X8_add_27 : decode cX8_add 27 = .ok (.ifCond .ne 10, 3) := by decide +kernel
theorem d_X8_add_30 : decode cX8_add 30 = .ok (.aload_n 0, 1) := by decide +kernel
theorem d_X8_add_31 : decode cX8_add 31 = .ok (.iconst 2, 1) := by decide +kernel
theorem d_X8_add_32 : decode cX8_add 32 = .ok (.iconst 0, 1) := by decide +kernel
theorem d_X8_add_33 : decode cX8_add 33 = .ok (.invokevirtual 90, 3) := by decide +kernel
theorem d_X8_add_36 : decode cX8_add 36 = .ok (.ireturn, 1) := by decide +kernel
theorem d_X8_add_37 : decode cX8_add 37 = .ok (.aload_n 0, 1) := by decide +kernel
theorem d_X8_add_38 : decode cX8_add 38 = .ok (.getfield 9, 3) := by decide +kernel
theorem d_X8_add_41 : decode cX8_add 41 = .ok (.iconst 3, 1) := by decide +kernel
theorem d_X8_add_42 : decode cX8_add 42 = .ok (.iaload, 1) := by decide +kernel
theorem d_X8_add_43 : decode cX8_add 43 = .ok (.bipush 6, 2) := by decide +kernel
theorem d_X8_add_45 : decode cX8_add 45 = .ok (.if_icmp .ne 10, 3) := by decide +kernel
theorem d_X8_add_48 : decode cX8_add 48 = .ok (.aload_n 0, 1) := by decide +kernel
theorem d_X8_add_49 : decode cX8_add 49 = .ok (.iconst 3, 1) := by decide +kernel
theorem d_X8_add_50 : decode cX8_add 50 = .ok (.iconst 0, 1) := by decide +kernel
theorem d_X8_add_51 : decode cX8_add 51 = .ok (.invokevirtual 90, 3) := by decide +kernel
theorem d_X8_add_54 : decode cX8_add 54 = .ok (.ireturn, 1) := by decide +kernel
theorem d_X8_add_55 : decode cX8_add 55 = .ok (.aload_n 0, 1) := by decide +kernel
theorem d_X8_add_56 : decode cX8_add 56 = .ok (.iload_n 1, 1) := by decide +kernel
theorem d_X8_add_57 : decode cX8_add 57 = .ok (.invokevirtual 93, 3) := by decide +kernel
theorem d_X8_add_60 : decode cX8_add 60 = .ok (.ifCond .ne 10, 3) := by decide +kernel
theorem d_X8_add_63 : decode cX8_add 63 = .ok (.aload_n 0, 1) := by decide +kernel
theorem d_X8_add_64 : decode cX8_add 64 = .ok (.iconst 4, 1) := by decide +kernel
theorem d_X8_add_65 : decode cX8_add 65 = .ok (.iload_n 1, 1) := by decide +kernel
theorem d_X8_add_66 : decode cX8_add 66 = .ok (.invokevirtual 90, 3) := by decide +kernel
theorem d_X8_add_69 : decode cX8_add 69 = .ok (.ireturn, 1) := by decide +kernel
theorem d_X8_add_70 : decode cX8_add 70 = .ok (.aload_n 0, 1) := by decide +kernel
theorem d_X8_add_71 : decode cX8_add 71 = .ok (.iload_n 1, 1) := by decide +kernel
theorem d_X8_add_72 : decode cX8_add 72 = .ok (.iconst 0, 1) := by decide +kernel
theorem d_X8_add_73 : decode cX8_add 73 = .ok (.iconst (-1), 1) := by decide +kernel
theorem d_X8_add_74 : decode cX8_add 74 = .ok (.invokevirtual 96, 3) := by decide +kernel
theorem d_X8_add_77 : decode cX8_add 77 = .ok (.istore_n 3, 1) := by decide +kernel
theorem d_X8_add_78 : decode cX8_add 78 = .ok (.iload_n 3, 1) := by decide +kernel
theorem d_X8_add_79 : decode cX8_add 79 = .ok (.ifCond .lt 10, 3) := by decide +kernel
theorem d_X8_add_82 : decode cX8_add 82 = .ok (.aload_n 0, 1) := by decide +kernel
theorem d_X8_add_83 : decode cX8_add 83 = .ok (.iconst 5, 1) := by decide +kernel
theorem d_X8_add_84 : decode cX8_add 84 = .ok (.iload_n 3, 1) := by decide +kernel
theorem d_X8_add_85 : decode cX8_add 85 = .ok (.invokevirtual 90, 3) := by decide +kernel
theorem d_X8_add_88 : decode cX8_add 88 = .ok (.ireturn, 1) := by decide +kernel
theorem d_X8_add_89 : decode cX8_add 89 = .ok (.aload_n 0, 1) := by decide +kernel
theorem d_X8_add_90 : decode cX8_add 90 = .ok (.invokevirtual 100, 3) := by decide +kernel
theorem d_X8_add_93 : decode cX8_add 93 = .ok (.aload_n 0, 1) := by decide +kernel
theorem d_X8_add_94 : decode cX8_add 94 = .ok (.getfield 9, 3) := by decide +kernel
theorem d_X8_add_97 : decode cX8_add 97 = .ok (.iconst 3, 1) := by decide +kernel
theorem d_X8_add_98 : decode cX8_add 98 = .ok (.iaload, 1) := by decide +kernel
theorem d_X8_add_99 : decode cX8_add 99 = .ok (.istore 4, 2) := by decide +kernel
theorem d_X8_add_101 : decode cX8_add 101 = .ok (.iconst 0, 1) := by decide +kernel
theorem d_X8_add_102 : decode cX8_add 102 = .ok (.istore 5, 2) := by decide +kernel
theorem d_X8_add_104 : decode cX8_add 104 = .ok (.iload 5, 2) := by decide +kernel
theorem d_X8_add_106 : decode cX8_add 106 = .ok (.bipush 36, 2) := by decide +kernel
theorem d_X8_add_108 : decode cX8_add 108 = .ok (.if_icmp .ge 23, 3) := by decide +kernel
theorem d_X8_add_111 : decode cX8_add 111 = .ok (.aload_n 0, 1) := by decide +kernel
theorem d_X8_add_112 : decode cX8_add 112 = .ok (.getfield 9, 3) := by decide +kernel
theorem d_X8_add_115 : decode cX8_add 115 = .ok (.iload 4, 2) := by decide +kernel
theorem d_X8_add_117 : decode cX8_add 117 = .ok (.invokestatic 75, 3) := by decide +kernel
theorem d_X8_add_120 : decode cX8_add 120 = .ok (.iload 5, 2) := by decide +kernel
theorem d_X8_add_122 : decode cX8_add 122 = .ok (.iadd, 1) := by decide +kernel
theorem d_X8_add_123 : decode cX8_add 123 = .ok (.iconst 0, 1) := by decide +kernel
theorem d_X8_add_124 : decode cX8_add 124 = .ok (.iastore, 1) := by decide +kernel
theorem d_X8_add_125 : decode cX8_add 125 = .ok (.iinc 5 1, 3) := by decide +kernel
theorem d_X8_add_128 : decode cX8_add 128 = .ok (.goto (-24), 3) := by decide +kernel
theorem d_X8_add_131 : decode cX8_add 131 = .ok (.aload_n 0, 1) := by decide +kernel
theorem d_X8_add_132 : decode cX8_add 132 = .ok (.getfield 9, 3) := by decide +kernel
theorem d_X8_add_135 : decode cX8_add 135 = .ok (.iload 4, 2) := by decide +kernel
theorem d_X8_add_137 : decode cX8_add 137 = .ok (.invokestatic 75, 3) := by decide +kernel
theorem d_X8_add_140 : decode cX8_add 140 = .ok (.iconst 0, 1) := by decide +kernel
theorem d_X8_add_141 : decode cX8_add 141 = .ok (.iadd, 1) := by decide +kernel
theorem d_X8_add_142 : decode cX8_add 142 = .ok (.iload_n 1, 1) := by decide +kernel
theorem d_X8_add_143 : decode cX8_add 143 = .ok (.iastore, 1) := by decide +kernel
theorem d_X8_add_144 : decode cX8_add 144 = .ok (.aload_n 0, 1) := by decide +kernel
theorem d_X8_add_145 : decode cX8_add 145 = .ok (.getfield 9, 3) := by decide +kernel
theorem d_X8_add_148 : decode cX8_add 148 = .ok (.iload 4, 2) := by decide +kernel
theorem d_X8_add_150 : decode cX8_add 150 = .ok (.invokestatic 75, 3) := by decide +kernel
theorem d_X8_add_153 : decode cX8_add 153 = .ok (.iconst 1, 1) := by decide +kernel
theorem d_X8_add_154 : decode cX8_add 154 = .ok (.iadd, 1) := by decide +kernel
theorem d_X8_add_155 : decode cX8_add 155 = .ok (.iload_n 2, 1) := by decide +kernel
theorem d_X8_add_156 : decode cX8_add 156 = .ok (.iastore, 1) := by decide +kernel
theorem d_X8_add_157 : decode cX8_add 157 = .ok (.aload_n 0, 1) := by decide +kernel
theorem d_X8_add_158 : decode cX8_add 158 = .ok (.getfield 9, 3) := by decide +kernel
theorem d_X8_add_161 : decode cX8_add 161 = .ok (.iload 4, 2) := by decide +kernel
theorem d_X8_add_163 : decode cX8_add 163 = .ok (.invokestatic 75, 3) := by decide +kernel
theorem d_X8_add_166 : decode cX8_add 166 = .ok (.iconst 2, 1) := by decide +kernel
theorem d_X8_add_167 : decode cX8_add 167 = .ok (.iadd, 1) := by decide +kernel
theorem d_X8_add_168 : decode cX8_add 168 = .ok (.iconst (-1), 1) := by decide +kernel
theorem d_X8_add_169 : decode cX8_add 169 = .ok (.iastore, 1) := by decide +kernel
theorem d_X8_add_170 : decode cX8_add 170 = .ok (.aload_n 0, 1) := by decide +kernel
theorem d_X8_add_171 : decode cX8_add 171 = .ok (.getfield 9, 3) := by decide +kernel
theorem d_X8_add_174 : decode cX8_add 174 = .ok (.iconst 3, 1) := by decide +kernel
theorem d_X8_add_175 : decode cX8_add 175 = .ok (.dup2, 1) := by decide +kernel
theorem d_X8_add_176 : decode cX8_add 176 = .ok (.iaload, 1) := by decide +kernel
theorem d_X8_add_177 : decode cX8_add 177 = .ok (.iconst 1, 1) := by decide +kernel
theorem d_X8_add_178 : decode cX8_add 178 = .ok (.iadd, 1) := by decide +kernel
theorem d_X8_add_179 : decode cX8_add 179 = .ok (.iastore, 1) := by decide +kernel
theorem d_X8_add_180 : decode cX8_add 180 = .ok (.iload 4, 2) := by decide +kernel
theorem d_X8_add_182 : decode cX8_add 182 = .ok (.ireturn, 1) := by decide +kernel
theorem d_X8_takeOff_0 : decode cX8_takeOff 0 = .ok (.aload_n 0, 1) := by decide +kernel
theorem d_X8_takeOff_1 : decode cX8_takeOff 1 = .ok (.iconst 0, 1) := by decide +kernel
theorem d_X8_takeOff_2 : decode cX8_takeOff 2 = .ok (.putfield 49, 3) := by decide +kernel
theorem d_X8_takeOff_5 : decode cX8_takeOff 5 = .ok (.aload_n 0, 1) := by decide +kernel
theorem d_X8_takeOff_6 : decode cX8_takeOff 6 = .ok (.iload_n 1, 1) := by decide +kernel
theorem d_X8_takeOff_7 : decode cX8_takeOff 7 = .ok (.invokevirtual 103, 3) := by decide +kernel
theorem d_X8_takeOff_10 : decode cX8_takeOff 10 = .ok (.ifCond .ne 10, 3) := by decide +kernel
theorem d_X8_takeOff_13 : decode cX8_takeOff 13 = .ok (.aload_n 0, 1) := by decide +kernel
theorem d_X8_takeOff_14 : decode cX8_takeOff 14 = .ok (.iconst 1, 1) := by decide +kernel
theorem d_X8_takeOff_15 : decode cX8_takeOff 15 = .ok (.iconst 0, 1) := by decide +kernel
theorem d_X8_takeOff_16 : decode cX8_takeOff 16 = .ok (.invokevirtual 90, 3) := by decide +kernel
theorem d_X8_takeOff_19 : decode cX8_takeOff 19 = .ok (.ireturn, 1) := by decide +kernel
theorem d_X8_takeOff_20 : decode cX8_takeOff 20 = .ok (.aload_n 0, 1) := by decide +kernel
theorem d_X8_takeOff_21 : decode cX8_takeOff 21 = .ok (.iload_n 1, 1) := by decide +kernel
theorem d_X8_takeOff_22 : decode cX8_takeOff 22 = .ok (.iconst 2, 1) := by decide +kernel
theorem d_X8_takeOff_23 : decode cX8_takeOff 23 = .ok (.invokevirtual 79, 3) := by decide +kernel
theorem d_X8_takeOff_26 : decode cX8_takeOff 26 = .ok (.ifCond .lt 16, 3) := by decide +kernel
theorem d_X8_takeOff_29 : decode cX8_takeOff 29 = .ok (.aload_n 0, 1) := by decide +kernel
theorem d_X8_takeOff_30 : decode cX8_takeOff 30 = .ok (.bipush 7, 2) := by decide +kernel
theorem d_X8_takeOff_32 : decode cX8_takeOff 32 = .ok (.aload_n 0, 1) := by decide +kernel
theorem d_X8_takeOff_33 : decode cX8_takeOff 33 = .ok (.iload_n 1, 1) := by decide +kernel
theorem d_X8_takeOff_34 : decode cX8_takeOff 34 = .ok (.iconst 2, 1) := by decide +kernel
theorem d_X8_takeOff_35 : decode cX8_takeOff 35 = .ok (.invokevirtual 79, 3) := by decide +kernel
theorem d_X8_takeOff_38 : decode cX8_takeOff 38 = .ok (.invokevirtual 90, 3) := by decide +kernel
theorem d_X8_takeOff_41 : decode cX8_takeOff 41 = .ok (.ireturn, 1) := by decide +kernel
theorem d_X8_takeOff_42 : decode cX8_takeOff 42 = .ok (.aload_n 0, 1) := by decide +kernel
theorem d_X8_takeOff_43 : decode cX8_takeOff 43 = .ok (.invokevirtual 100, 3) := by decide +kernel
theorem d_X8_takeOff_46 : decode cX8_takeOff 46 = .ok (.aload_n 0, 1) := by decide +kernel
theorem d_X8_takeOff_47 : decode cX8_takeOff 47 = .ok (.getfield 9, 3) := by decide +kernel
theorem d_X8_takeOff_50 : decode cX8_takeOff 50 = .ok (.iconst 3, 1) := by decide +kernel
theorem d_X8_takeOff_51 : decode cX8_takeOff 51 = .ok (.dup2, 1) := by decide +kernel
theorem d_X8_takeOff_52 : decode cX8_takeOff 52 = .ok (.iaload, 1) := by decide +kernel
theorem d_X8_takeOff_53 : decode cX8_takeOff 53 = .ok (.iconst 1, 1) := by decide +kernel
theorem d_X8_takeOff_54 : decode cX8_takeOff 54 = .ok (.isub, 1) := by decide +kernel
theorem d_X8_takeOff_55 : decode cX8_takeOff 55 = .ok (.iastore, 1) := by decide +kernel
theorem d_X8_takeOff_56 : decode cX8_takeOff 56 = .ok (.aload_n 0, 1) := by decide +kernel
theorem d_X8_takeOff_57 : decode cX8_takeOff 57 = .ok (.getfield 9, 3) := by decide +kernel
theorem d_X8_takeOff_60 : decode cX8_takeOff 60 = .ok (.iload_n 1, 1) := by decide +kernel
theorem d_X8_takeOff_61 : decode cX8_takeOff 61 = .ok (.iconst 1, 1) := by decide +kernel
theorem d_X8_takeOff_62 : decode cX8_takeOff 62 = .ok (.iadd, 1) := by decide +kernel
theorem d_X8_takeOff_63 : decode cX8_takeOff 63 = .ok (.invokestatic 75, 3) := by decide +kernel
theorem d_X8_takeOff_66 : decode cX8_takeOff 66 = .ok (.aload_n 0, 1) := by decide +kernel
theorem d_X8_takeOff_67 : decode cX8_takeOff 67 = .ok (.getfield 9, 3) := by decide +kernel
theorem d_X8_takeOff_70 : decode cX8_takeOff 70 = .ok (.iload_n 1, 1) := by decide +kernel
theorem d_X8_takeOff_71 : decode cX8_takeOff 71 = .ok (.invokestatic 75, 3) := by decide +kernel
theorem d_X8_takeOff_74 : decode cX8_takeOff 74 = .ok (.bipush 36, 2) := by decide +kernel
theorem d_X8_takeOff_76 : decode cX8_takeOff 76 = .ok (.aload_n 0, 1) := by decide +kernel
theorem d_X8_takeOff_77 : decode cX8_takeOff 77 = .ok (.getfield 9, 3) := by decide +kernel
theorem d_X8_takeOff_80 : decode cX8_takeOff 80 = .ok (.iconst 3, 1) := by decide +kernel
theorem d_X8_takeOff_81 : decode cX8_takeOff 81 = .ok (.iaload, 1) := by decide +kernel
theorem d_X8_takeOff_82 : decode cX8_takeOff 82 = .ok (.iload_n 1, 1) := by decide +kernel
theorem d_X8_takeOff_83 : decode cX8_takeOff 83 = .ok (.isub, 1) := by decide +kernel
theorem d_X8_takeOff_84 : decode cX8_takeOff 84 = .ok (.imul, 1) := by decide +kernel
theorem d_X8_takeOff_85 : decode cX8_takeOff 85 = .ok (.invokestatic 55, 3) := by decide +kernel
theorem d_X8_takeOff_88 : decode cX8_takeOff 88 = .ok (.iconst 0, 1) := by decide +kernel
theorem d_X8_takeOff_89 : decode cX8_takeOff 89 = .ok (.istore_n 2, 1) := by decide +kernel
theorem d_X8_takeOff_90 : decode cX8_takeOff 90 = .ok (.iload_n 2, 1) := by decide +kernel
theorem d_X8_takeOff_91 : decode cX8_takeOff 91 = .ok (.aload_n 0, 1) := by decide +kernel
theorem d_X8_takeOff_92 : decode cX8_takeOff 92 = .ok (.getfield 9, 3) := by decide +kernel
theorem d_X8_takeOff_95 : decode cX8_takeOff 95 = .ok (.iconst 4, 1) := by decide +kernel
theorem d_X8_takeOff_96 : decode cX8_takeOff 96 = .ok (.iaload, 1) := by decide +kernel
theorem d_X8_takeOff_97 : decode cX8_takeOff 97 = .ok (.if_icmp .ge 43, 3) := by decide +kernel
theorem d_X8_takeOff_100 : decode cX8_takeOff 100 = .ok (.aload_n 0, 1) := by decide +kernel
theorem d_X8_takeOff_101 : decode cX8_takeOff 101 = .ok (.getfield 9, 3) := by decide +kernel
theorem d_X8_takeOff_104 : decode cX8_takeOff 104 = .ok (.iload_n 2, 1) := by decide +kernel
theorem d_X8_takeOff_105 : decode cX8_takeOff 105 = .ok (.invokestatic 106, 3) := by decide +kernel
theorem d_X8_takeOff_108 : decode cX8_takeOff 108 = .ok (.iconst 3, 1) := by decide +kernel
theorem d_X8_takeOff_109 : decode cX8_takeOff 109 = .ok (.iadd, 1) := by decide +kernel
theorem d_X8_takeOff_110 : decode cX8_takeOff 110 = .ok (.dup2, 1) := by decide +kernel
theorem d_X8_takeOff_111 : decode cX8_takeOff 111 = .ok (.iaload, 1) := by decide +kernel
theorem d_X8_takeOff_112 : decode cX8_takeOff 112 = .ok (.aload_n 0, 1) := by decide +kernel
theorem d_X8_takeOff_113 : decode cX8_takeOff 113 = .ok (.getfield 9, 3) := by decide +kernel
theorem d_X8_takeOff_116 : decode cX8_takeOff 116 = .ok (.iload_n 2, 1) := by decide +kernel
theorem d_X8_takeOff_117 : decode cX8_takeOff 117 = .ok (.invokestatic 106, 3) := by decide +kernel
theorem d_X8_takeOff_120 : decode cX8_takeOff 120 = .ok (.iconst 3, 1) := by decide +kernel
theorem d_X8_takeOff_121 : decode cX8_takeOff 121 = .ok (.iadd, 1) := by decide +kernel
theorem d_X8_takeOff_122 : decode cX8_takeOff 122 = .ok (.iaload, 1) := by decide +kernel
theorem d_X8_takeOff_123 : decode cX8_takeOff 123 = .ok (.iload_n 1, 1) := by decide +kernel
theorem d_X8_takeOff_124 : decode cX8_takeOff 124 = .ok (.if_icmp .le 7, 3) := by decide +kernel
theorem d_X8_takeOff_127 : decode cX8_takeOff 127 = .ok (.iconst 1, 1) := by decide +kernel
theorem d_X8_takeOff_128 : decode cX8_takeOff 128 = .ok (.goto 4, 3) := by decide +kernel
theorem d_X8_takeOff_131 : decode cX8_takeOff 131 = .ok (.iconst 0, 1) := by decide +kernel
theorem d_X8_takeOff_132 : decode cX8_takeOff 132 = .ok (.isub, 1) := by decide +kernel
theorem d_X8_takeOff_133 : decode cX8_takeOff 133 = .ok (.iastore, 1) := by decide +kernel
theorem d_X8_takeOff_134 : decode cX8_takeOff 134 = .ok (.iinc 2 1, 3) := by decide +kernel
theorem d_X8_takeOff_137 : decode cX8_takeOff 137 = .ok (.goto (-47), 3) := by decide +kernel
theorem d_X8_takeOff_140 : decode cX8_takeOff 140 = .ok (.aload_n 0, 1) := by decide +kernel
theorem d_X8_takeOff_141 : decode cX8_takeOff 141 = .ok (.getfield 9, 3) := by decide +kernel
theorem d_X8_takeOff_144 : decode cX8_takeOff 144 = .ok (.iconst 3, 1) := by decide +kernel
theorem d_X8_takeOff_145 : decode cX8_takeOff 145 = .ok (.iaload, 1) := by decide +kernel
theorem d_X8_takeOff_146 : decode cX8_takeOff 146 = .ok (.ireturn, 1) := by decide +kernel
theorem d_X8_isOrder_0 : decode cX8_isOrder 0 = .ok (.iload_n 1, 1) := by decide +kernel
theorem d_X8_isOrder_1 : decode cX8_isOrder 1 = .ok (.iconst 0, 1) := by decide +kernel
theorem d_X8_isOrder_2 : decode cX8_isOrder 2 = .ok (.aload_n 0, 1) := by decide +kernel
theorem d_X8_isOrder_3 : decode cX8_isOrder 3 = .ok (.getfield 9, 3) := by decide +kernel
theorem d_X8_isOrder_6 : decode cX8_isOrder 6 = .ok (.iconst 4, 1) := by decide +kernel
theorem d_X8_isOrder_7 : decode cX8_isOrder 7 = .ok (.iaload, 1) := by decide +kernel
theorem d_X8_isOrder_8 : decode cX8_isOrder 8 = .ok (.iconst 1, 1) := by decide +kernel
theorem d_X8_isOrder_9 : decode cX8_isOrder 9 = .ok (.isub, 1) := by decide +kernel
theorem d_X8_isOrder_10 : decode cX8_isOrder 10 = .ok (.invokestatic 71, 3) := by decide +kernel
theorem d_X8_isOrder_13 : decode cX8_isOrder 13 = .ok (.ireturn, 1) := by decide +kernel
theorem d_X8_order_0 : decode cX8_order 0 = .ok (.sipush 320, 3) := by decide +kernel
theorem d_X8_order_3 : decode cX8_order 3 = .ok (.bipush 8, 2) := by decide +kernel
theorem d_X8_order_5 : decode cX8_order 5 = .ok (.iload_n 0, 1) := by decide +kernel
theorem d_X8_order_6 : decode cX8_order 6 = .ok (.imul, 1) := by decide +kernel
theorem d_X8_order_7 : decode cX8_order 7 = .ok (.iadd, 1) := by decide +kernel
theorem d_X8_order_8 : decode cX8_order 8 = .ok (.ireturn, 1) := by decide +kernel
theorem d_X8_get_0 : decode cX8_get 0 = .ok (.aload_n 0, 1) := by decide +kernel
theorem d_X8_get_1 : decode cX8_get 1 = .ok (.getfield 9, 3) := by decide +kernel
theorem d_X8_get_4 : decode cX8_get 4 = .ok (.iload_n 1, 1) := by decide +kernel
theorem d_X8_get_5 : decode cX8_get 5 = .ok (.invokestatic 106, 3) := by decide +kernel
theorem d_X8_get_8 : decode cX8_get 8 = .ok (.iload_n 2, 1) := by decide +kernel
theorem d_X8_get_9 : decode cX8_get 9 = .ok (.iadd, 1) := by decide +kernel
theorem d_X8_get_10 : decode cX8_get 10 = .ok (.iaload, 1) := by decide +kernel
theorem d_X8_get_11 : decode cX8_get 11 = .ok (.ireturn, 1) := by decide +kernel
theorem d_X8_stateOf_0 : decode cX8_stateOf 0 = .ok (.aload_n 0, 1) := by decide +kernel
theorem d_X8_stateOf_1 : decode cX8_stateOf 1 = .ok (.iload_n 1, 1) := by decide +kernel
theorem d_X8_stateOf_2 : decode cX8_stateOf 2 = .ok (.iconst 4, 1) := by decide +kernel
theorem d_X8_stateOf_3 : decode cX8_stateOf 3 = .ok (.invokevirtual 109, 3) := by decide +kernel
theorem d_X8_stateOf_6 : decode cX8_stateOf 6 = .ok (.ifCond .lt 7, 3) := by decide +kernel
theorem d_X8_stateOf_9 : decode cX8_stateOf 9 = .ok (.iconst 2, 1) := by decide +kernel
theorem d_X8_stateOf_10 : decode cX8_stateOf 10 = .ok (.goto 17, 3) := by decide +kernel
theorem d_X8_stateOf_13 : decode cX8_stateOf 13 = .ok (.aload_n 0, 1) := by decide +kernel
theorem d_X8_stateOf_14 : decode cX8_stateOf 14 = .ok (.iload_n 1, 1) := by decide +kernel
theorem d_X8_stateOf_15 : decode cX8_stateOf 15 = .ok (.iconst 3, 1) := by decide +kernel
theorem d_X8_stateOf_16 : decode cX8_stateOf 16 = .ok (.invokevirtual 109, 3) := by decide +kernel
theorem d_X8_stateOf_19 : decode cX8_stateOf 19 = .ok (.ifCond .lt 7, 3) := by decide +kernel
theorem d_X8_stateOf_22 : decode cX8_stateOf 22 = .ok (.iconst 1, 1) := by decide +kernel
theorem d_X8_stateOf_23 : decode cX8_stateOf 23 = .ok (.goto 4, 3) := by decide +kernel
theorem d_X8_stateOf_26 : decode cX8_stateOf 26 = .ok (.iconst 0, 1) := by decide +kernel
theorem d_X8_stateOf_27 : decode cX8_stateOf 27 = .ok (.ireturn, 1) := by decide +kernel
theorem d_X8_order__0 : decode cX8_order_ 0 = .ok (.aload_n 0, 1) := by decide +kernel
theorem d_X8_order__1 : decode cX8_order_ 1 = .ok (.iconst 0, 1) := by decide +kernel
theorem d_X8_order__2 : decode cX8_order_ 2 = .ok (.putfield 49, 3) := by decide +kernel
theorem d_X8_order__5 : decode cX8_order_ 5 = .ok (.aload_n 0, 1) := by decide +kernel
theorem d_X8_order__6 : decode cX8_order_ 6 = .ok (.getfield 19, 3) := by decide +kernel
theorem d_X8_order__9 : decode cX8_order_ 9 = .ok (.iconst 0, 1) := by decide +kernel
theorem d_X8_order__10 : decode cX8_order_ 10 = .ok (.iload_n 2, 1) := by decide +kernel
theorem d_X8_order__11 : decode cX8_order_ 11 = .ok (.iastore, 1) := by decide +kernel
theorem d_X8_order__12 : decode cX8_order_ 12 = .ok (.aload_n 0, 1) := by decide +kernel
theorem d_X8_order__13 : decode cX8_order_ 13 = .ok (.getfield 19, 3) := by decide +kernel
theorem d_X8_order__16 : decode cX8_order_ 16 = .ok (.iconst 1, 1) := by decide +kernel
theorem d_X8_order__17 : decode cX8_order_ 17 = .ok (.iload_n 3, 1) := by decide +kernel
theorem d_X8_order__18 : decode cX8_order_ 18 = .ok (.iastore, 1) := by decide +kernel
theorem d_X8_order__19 : decode cX8_order_ 19 = .ok (.aload_n 0, 1) := by decide +kernel
theorem d_X8_order__20 : decode cX8_order_ 20 = .ok (.getfield 19, 3) := by decide +kernel
theorem d_X8_order__23 : decode cX8_order_ 23 = .ok (.iconst 2, 1) := by decide +kernel
theorem d_X8_order__24 : decode cX8_order_ 24 = .ok (.iload 4, 2) := by decide +kernel
theorem d_X8_order__26 : decode cX8_order_ 26 = .ok (.iastore, 1) := by decide +kernel
theorem d_X8_order__27 : decode cX8_order_ 27 = .ok (.iload_n 3, 1) := by decide +kernel
theorem d_X8_order__28 : decode cX8_order_ 28 = .ok (.iconst (-1), 1) := by decide +kernel
theorem d_X8_order__29 : decode cX8_order_ 29 = .ok (.if_icmp .ne 7, 3) := by decide +kernel
theorem d_X8_order__32 : decode cX8_order_ 32 = .ok (.iconst 1, 1) := by decide +kernel
theorem d_X8_order__33 : decode cX8_order_ 33 = .ok (.goto 14, 3) := by decide +kernel
theorem d_X8_order__36 : decode cX8_order_ 36 = .ok (.iload 4, 2) := by decide +kernel
theorem d_X8_order__38 : decode cX8_order_ 38 = .ok (.iconst (-1), 1) := by decide +kernel
theorem d_X8_order__39 : decode cX8_order_ 39 = .ok (.if_icmp .ne 7, 3) := by decide +kernel
theorem d_X8_order__42 : decode cX8_order_ 42 = .ok (.iconst 2, 1) := by decide +kernel
theorem d_X8_order__43 : decode cX8_order_ 43 = .ok (.goto 4, 3) := by decide +kernel
theorem d_X8_order__46 : decode cX8_order_ 46 = .ok (.iconst 3, 1) := by decide +kernel
theorem d_X8_order__47 : decode cX8_order_ 47 = .ok (.istore 5, 2) := by decide +kernel
theorem d_X8_order__49 : decode cX8_order_ 49 = .ok (.iconst 0, 1) := by decide +kernel
theorem d_X8_order__50 : decode cX8_order_ 50 = .ok (.istore 6, 2) := by decide +kernel
theorem d_X8_order__52 : decode cX8_order_ 52 = .ok (.iload 6, 2) := by decide +kernel
theorem d_X8_order__54 : decode cX8_order_ 54 = .ok (.iconst 3, 1) := by decide +kernel
theorem d_X8_order__55 : decode cX8_order_ 55 = .ok (.if_icmp .ge 46, 3) := by decide +kernel
theorem d_X8_order__58 : decode cX8_order_ 58 = .ok (.aload_n 0, 1) := by decide +kernel
theorem d_X8_order__59 : decode cX8_order_ 59 = .ok (.aload_n 0, 1) := by decide +kernel
theorem d_X8_order__60 : decode cX8_order_ 60 = .ok (.getfield 19, 3) := by decide +kernel
theorem d_X8_order__63 : decode cX8_order_ 63 = .ok (.iload 6, 2) := by decide +kernel
theorem d_X8_order__65 : decode cX8_order_ 65 = .ok (.iaload, 1) := by decide +kernel
theorem d_X8_order__66 : decode cX8_order_ 66 = .ok (.invokevirtual 86, 3) := by decide +kernel
theorem d_X8_order__69 : decode cX8_order_ 69 = .ok (.ifCond .ne 26, 3) := by decide +kernel
theorem d_X8_order__72 : decode cX8_order_ 72 = .ok (.iload 6, 2) := by decide +kernel
theorem d_X8_order__74 : decode cX8_order_ 74 = .ok (.ifCond .eq 14, 3) := by decide +kernel
theorem d_X8_order__77 : decode cX8_order_ 77 = .ok (.aload_n 0, 1) := by decide +kernel
theorem d_X8_order__78 : decode cX8_order_ 78 = .ok (.getfield 19, 3) := by decide +kernel
theorem d_X8_order__81 : decode cX8_order_ 81 = .ok (.iload 6, 2) := by decide +kernel
theorem d_X8_order__83 : decode cX8_order_ 83 = .ok (.iaload, 1) := by decide +kernel
theorem d_X8_order__84 : decode cX8_order_ 84 = .ok (.iconst (-1), 1) := by decide +kernel
theorem d_X8_order__85 : decode cX8_order_ 85 = .ok (.if_icmp .eq 10, 3) := by decide +kernel
theorem d_X8_order__88 : decode cX8_order_ 88 = .ok (.aload_n 0, 1) := by decide +kernel
theorem d_X8_order__89 : decode cX8_order_ 89 = .ok (.iconst 1, 1) := by decide +kernel
theorem d_X8_order__90 : decode cX8_order_ 90 = .ok (.iconst 0, 1) := by decide +kernel
theorem d_X8_order__91 : decode cX8_order_ 91 = .ok (.invokevirtual 90, 3) := by decide +kernel
theorem d_X8_order__94 : decode cX8_order_ 94 = .ok (.ireturn, 1) := by decide +kernel
theorem d_X8_order__95 : decode cX8_order_ 95 = .ok (.iinc 6 1, 3) := by decide +kernel
theorem d_X8_order__98 : decode cX8_order_ 98 = .ok (.goto (-46), 3) := by decide +kernel
theorem d_X8_order__101 : decode cX8_order_ 101 = .ok (.iload_n 1, 1) := by decide +kernel
theorem d_X8_order__102 : decode cX8_order_ 102 = .ok (.iconst 0, 1) := by decide +kernel
theorem d_X8_order__103 : decode cX8_order_ 103 = .ok (.sipush 999, 3) := by decide +kernel
theorem d_X8_order__106 : decode cX8_order_ 106 = .ok (.invokestatic 71, 3) := by decide +kernel
theorem d_X8_order__109 : decode cX8_order_ 109 = .ok (.ifCond .eq 14, 3) := by decide +kernel
theorem d_X8_order__112 : decode cX8_order_ 112 = .ok (.iload_n 3, 1) := by decide +kernel
theorem d_X8_order__113 : decode cX8_order_ 113 = .ok (.iconst (-1), 1) := by decide +kernel
theorem d_X8_order__114 : decode cX8_order_ 114 = .ok (.if_icmp .ne 16, 3) := by decide +kernel
theorem d_X8_order__117 : decode cX8_order_ 117 = .ok (.iload 4, 2) := by decide +kernel
theorem d_X8_order__119 : decode cX8_order_ 119 = .ok (.iconst (-1), 1) := by decide +kernel
theorem d_X8_order__120 : decode cX8_order_ 120 = .ok (.if_icmp .eq 10, 3) := by decide +kernel
theorem d_X8_order__123 : decode cX8_order_ 123 = .ok (.aload_n 0, 1) := by decide +kernel
theorem d_X8_order__124 : decode cX8_order_ 124 = .ok (.iconst 2, 1) := by decide +kernel
theorem d_X8_order__125 : decode cX8_order_ 125 = .ok (.iconst 0, 1) := by decide +kernel
theorem d_X8_order__126 : decode cX8_order_ 126 = .ok (.invokevirtual 90, 3) := by decide +kernel
theorem d_X8_order__129 : decode cX8_order_ 129 = .ok (.ireturn, 1) := by decide +kernel
theorem d_X8_order__130 : decode cX8_order_ 130 = .ok (.aload_n 0, 1) := by decide +kernel
theorem d_X8_order__131 : decode cX8_order_ 131 = .ok (.getfield 9, 3) := by decide +kernel
theorem d_X8_order__134 : decode cX8_order_ 134 = .ok (.iconst 4, 1) := by decide +kernel
theorem d_X8_order__135 : decode cX8_order_ 135 = .ok (.iaload, 1) := by decide +kernel
theorem d_X8_order__136 : decode cX8_order_ 136 = .ok (.bipush 10, 2) := by decide +kernel
theorem d_X8_order__138 : decode cX8_order_ 138 = .ok (.if_icmp .ne 10, 3) := by decide +kernel
theorem d_X8_order__141 : decode cX8_order_ 141 = .ok (.aload_n 0, 1) := by decide +kernel
theorem d_X8_order__142 : decode cX8_order_ 142 = .ok (.iconst 3, 1) := by decide +kernel
theorem d_X8_order__143 : decode cX8_order_ 143 = .ok (.iconst 0, 1) := by decide +kernel
theorem d_X8_order__144 : decode cX8_order_ 144 = .ok (.invokevirtual 90, 3) := by decide +kernel
theorem d_X8_order__147 : decode cX8_order_ 147 = .ok (.ireturn, 1) := by decide +kernel
theorem d_X8_order__148 : decode cX8_order_ 148 = .ok (.iconst 0, 1) := by decide +kernel
theorem d_X8_order__149 : decode cX8_order_ 149 = .ok (.istore 6, 2) := by decide +kernel
theorem d_X8_order__151 : decode cX8_order_ 151 = .ok (.iload 6, 2) := by decide +kernel
theorem d_X8_order__153 : decode cX8_order_ 153 = .ok (.iload 5, 2) := by decide +kernel
theorem d_X8_order__155 : decode cX8_order_ 155 = .ok (.if_icmp .ge 41, 3) := by decide +kernel
theorem d_X8_order__158 : decode cX8_order_ 158 = .ok (.aload_n 0, 1) := by decide +kernel
theorem d_X8_order__159 : decode cX8_order_ 159 = .ok (.getfield 9, 3) := by decide +kernel
theorem d_X8_order__162 : decode cX8_order_ 162 = .ok (.bipush 8, 2) := by decide +kernel
theorem d_X8_order__164 : decode cX8_order_ 164 = .ok (.aload_n 0, 1) := by decide +kernel
theorem d_X8_order__165 : decode cX8_order_ 165 = .ok (.getfield 19, 3) := by decide +kernel
theorem d_X8_order__168 : decode cX8_order_ 168 = .ok (.iload 6, 2) := by decide +kernel
theorem d_X8_order__170 : decode cX8_order_ 170 = .ok (.iaload, 1) := by decide +kernel
theorem d_X8_order__171 : decode cX8_order_ 171 = .ok (.iadd, 1) := by decide +kernel
theorem d_X8_order__172 : decode cX8_order_ 172 = .ok (.iaload, 1) := by decide +kernel
theorem d_X8_order__173 : decode cX8_order_ 173 = .ok (.ifCond .eq 17, 3) := by decide +kernel
theorem d_X8_order__176 : decode cX8_order_ 176 = .ok (.aload_n 0, 1) := by decide +kernel
theorem d_X8_order__177 : decode cX8_order_ 177 = .ok (.bipush 12, 2) := by decide +kernel
theorem d_X8_order__179 : decode cX8_order_ 179 = .ok (.aload_n 0, 1) := by decide +kernel
theorem d_X8_order__180 : decode cX8_order_ 180 = .ok (.getfield 19, 3) := by decide +kernel
theorem d_X8_order__183 : decode cX8_order_ 183 = .ok (.iload 6, 2) := by decide +kernel
theorem d_X8_order__185 : decode cX8_order_ 185 = .ok (.iaload, 1) := by decide +kernel
theorem d_X8_order__186 : decode cX8_order_ 186 = .ok (.invokevirtual 90, 3) := by decide +kernel
theorem d_X8_order__189 : decode cX8_order_ 189 = .ok (.ireturn, 1) := by decide +kernel
theorem d_X8_order__190 : decode cX8_order_ 190 = .ok (.iinc 6 1, 3) := by decide +kernel
theorem d_X8_order__193 : decode cX8_order_ 193 = .ok (.goto (-42), 3) := by decide +kernel
theorem d_X8_order__196 : decode cX8_order_ 196 = .ok (.aload_n 0, 1) := by decide +kernel
theorem d_X8_order__197 : decode cX8_order_ 197 = .ok (.invokevirtual 100, 3) := by decide +kernel
theorem d_X8_order__200 : decode cX8_order_ 200 = .ok (.aload_n 0, 1) := by decide +kernel
theorem d_X8_order__201 : decode cX8_order_ 201 = .ok (.getfield 9, 3) := by decide +kernel
theorem d_X8_order__204 : decode cX8_order_ 204 = .ok (.iconst 4, 1) := by decide +kernel
theorem d_X8_order__205 : decode cX8_order_ 205 = .ok (.iaload, 1) := by decide +kernel
theorem d_X8_order__206 : decode cX8_order_ 206 = .ok (.istore 6, 2) := by decide +kernel
theorem d_X8_order__208 : decode cX8_order_ 208 = .ok (.aload_n 0, 1) := by decide +kernel
theorem d_X8_order__209 : decode cX8_order_ 209 = .ok (.getfield 9, 3) := by decide +kernel
theorem d_X8_order__212 : decode cX8_order_ 212 = .ok (.iload 6, 2) := by decide +kernel
theorem d_X8_order__214 : decode cX8_order_ 214 = .ok (.invokestatic 106, 3) := by decide +kernel
theorem d_X8_order__217 : decode cX8_order_ 217 = .ok (.iconst 0, 1) := by decide +kernel
theorem d_X8_order__218 : decode cX8_order_ 218 = .ok (.iadd, 1) := by decide +kernel
theorem d_X8_order__219 : decode cX8_order_ 219 = .ok (.iload_n 1, 1) := by decide +kernel
theorem d_X8_order__220 : decode cX8_order_ 220 = .ok (.iastore, 1) := by decide +kernel
theorem d_X8_order__221 : decode cX8_order_ 221 = .ok (.aload_n 0, 1) := by decide +kernel
theorem d_X8_order__222 : decode cX8_order_ 222 = .ok (.getfield 9, 3) := by decide +kernel
theorem d_X8_order__225 : decode cX8_order_ 225 = .ok (.iload 6, 2) := by decide +kernel
theorem d_X8_order__227 : decode cX8_order_ 227 = .ok (.invokestatic 106, 3) := by decide +kernel
theorem d_X8_order__230 : decode cX8_order_ 230 = .ok (.iconst 1, 1) := by decide +kernel
theorem d_X8_order__231 : decode cX8_order_ 231 = .ok (.iadd, 1) := by decide +kernel
theorem d_X8_order__232 : decode cX8_order_ 232 = .ok (.iload 5, 2) := by decide +kernel
theorem d_X8_order__234 : decode cX8_order_ 234 = .ok (.iastore, 1) := by decide +kernel
theorem d_X8_order__235 : decode cX8_order_ 235 = .ok (.aload_n 0, 1) := by decide +kernel
theorem d_X8_order__236 : decode cX8_order_ 236 = .ok (.getfield 9, 3) := by decide +kernel
theorem d_X8_order__239 : decode cX8_order_ 239 = .ok (.iload 6, 2) := by decide +kernel
theorem d_X8_order__241 : decode cX8_order_ 241 = .ok (.invokestatic 106, 3) := by decide +kernel
theorem d_X8_order__244 : decode cX8_order_ 244 = .ok (.iconst 2, 1) := by decide +kernel
theorem d_X8_order__245 : decode cX8_order_ 245 = .ok (.iadd, 1) := by decide +kernel
theorem d_X8_order__246 : decode cX8_order_ 246 = .ok (.iconst 0, 1) := by decide +kernel
theorem d_X8_order__247 : decode cX8_order_ 247 = .ok (.iastore, 1) := by decide +kernel
theorem d_X8_order__248 : decode cX8_order_ 248 = .ok (.aload_n 0, 1) := by decide +kernel
theorem d_X8_order__249 : decode cX8_order_ 249 = .ok (.getfield 9, 3) := by decide +kernel
theorem d_X8_order__252 : decode cX8_order_ 252 = .ok (.iload 6, 2) := by decide +kernel
theorem d_X8_order__254 : decode cX8_order_ 254 = .ok (.invokestatic 106, 3) := by decide +kernel
theorem d_X8_order__257 : decode cX8_order_ 257 = .ok (.iconst 3, 1) := by decide +kernel
theorem d_X8_order__258 : decode cX8_order_ 258 = .ok (.iadd, 1) := by decide +kernel
theorem d_X8_order__259 : decode cX8_order_ 259 = .ok (.iconst (-1), 1) := by decide +kernel
theorem d_X8_order__260 : decode cX8_order_ 260 = .ok (.iastore, 1) := by decide +kernel
theorem d_X8_order__261 : decode cX8_order_ 261 = .ok (.aload_n 0, 1) := by decide +kernel
theorem d_X8_order__262 : decode cX8_order_ 262 = .ok (.getfield 9, 3) := by decide +kernel
theorem d_X8_order__265 : decode cX8_order_ 265 = .ok (.iload 6, 2) := by decide +kernel
theorem d_X8_order__267 : decode cX8_order_ 267 = .ok (.invokestatic 106, 3) := by decide +kernel
theorem d_X8_order__270 : decode cX8_order_ 270 = .ok (.iconst 4, 1) := by decide +kernel
theorem d_X8_order__271 : decode cX8_order_ 271 = .ok (.iadd, 1) := by decide +kernel
theorem d_X8_order__272 : decode cX8_order_ 272 = .ok (.iconst (-1), 1) := by decide +kernel
theorem d_X8_order__273 : decode cX8_order_ 273 = .ok (.iastore, 1) := by decide +kernel
theorem d_X8_order__274 : decode cX8_order_ 274 = .ok (.aload_n 0, 1) := by decide +kernel
theorem d_X8_order__275 : decode cX8_order_ 275 = .ok (.getfield 19, 3) := by decide +kernel
theorem d_X8_order__278 : decode cX8_order_ 278 = .ok (.iconst 0, 1) := by decide +kernel
theorem d_X8_order__279 : decode cX8_order_ 279 = .ok (.aload_n 0, 1) := by decide +kernel
theorem d_X8_order__280 : decode cX8_order_ 280 = .ok (.getfield 9, 3) := by decide +kernel
theorem d_X8_order__283 : decode cX8_order_ 283 = .ok (.iload 6, 2) := by decide +kernel
theorem d_X8_order__285 : decode cX8_order_ 285 = .ok (.invokestatic 106, 3) := by decide +kernel
theorem d_X8_order__288 : decode cX8_order_ 288 = .ok (.iconst 5, 1) := by decide +kernel
theorem d_X8_order__289 : decode cX8_order_ 289 = .ok (.iadd, 1) := by decide +kernel
theorem d_X8_order__290 : decode cX8_order_ 290 = .ok (.iconst 3, 1) := by decide +kernel
theorem d_X8_order__291 : decode cX8_order_ 291 = .ok (.invokestatic 55, 3) := by decide +kernel
theorem d_X8_order__294 : decode cX8_order_ 294 = .ok (.aload_n 0, 1) := by decide +kernel
theorem d_X8_order__295 : decode cX8_order_ 295 = .ok (.getfield 9, 3) := by decide +kernel
theorem d_X8_order__298 : decode cX8_order_ 298 = .ok (.iconst 4, 1) := by decide +kernel
theorem d_X8_order__299 : decode cX8_order_ 299 = .ok (.dup2, 1) := by decide +kernel
theorem d_X8_order__300 : decode cX8_order_ 300 = .ok (.iaload, 1) := by decide +kernel
theorem d_X8_order__301 : decode cX8_order_ 301 = .ok (.iconst 1, 1) := by decide +kernel
theorem d_X8_order__302 : decode cX8_order_ 302 = .ok (.iadd, 1) := by decide +kernel
theorem d_X8_order__303 : decode cX8_order_ 303 = .ok (.iastore, 1) := by decide +kernel
theorem d_X8_order__304 : decode cX8_order_ 304 = .ok (.iload 6, 2) := by decide +kernel
theorem d_X8_order__306 : decode cX8_order_ 306 = .ok (.ireturn, 1) := by decide +kernel
theorem d_X8_assign_0 : decode cX8_assign 0 = .ok (.aload_n 0, 1) := by decide +kernel
theorem d_X8_assign_1 : decode cX8_assign 1 = .ok (.iconst 0, 1) := by decide +kernel
theorem d_X8_assign_2 : decode cX8_assign 2 = .ok (.putfield 49, 3) := by decide +kernel
theorem d_X8_assign_5 : decode cX8_assign 5 = .ok (.aload_n 0, 1) := by decide +kernel
theorem d_X8_assign_6 : decode cX8_assign 6 = .ok (.iload_n 1, 1) := by decide +kernel
theorem d_X8_assign_7 : decode cX8_assign 7 = .ok (.invokevirtual 103, 3) := by decide +kernel
theorem d_X8_assign_10 : decode cX8_assign 10 = .ok (.ifCond .eq 11, 3) := by decide +kernel
theorem d_X8_assign_13 : decode cX8_assign 13 = .ok (.aload_n 0, 1) := by decide +kernel
theorem d_X8_assign_14 : decode cX8_assign 14 = .ok (.iload_n 2, 1) := by decide +kernel
theorem d_X8_assign_15 : decode cX8_assign 15 = .ok (.invokevirtual 112, 3) := by decide +kernel
theorem d_X8_assign_18 : decode cX8_assign 18 = .ok (.ifCond .ne 10, 3) := by decide +kernel
theorem d_X8_assign_21 : decode cX8_assign 21 = .ok (.aload_n 0, 1) := by decide +kernel
theorem d_X8_assign_22 : decode cX8_assign 22 = .ok (.iconst 1, 1) := by decide +kernel
theorem d_X8_assign_23 : decode cX8_assign 23 = .ok (.iconst 0, 1) := by decide +kernel
theorem d_X8_assign_24 : decode cX8_assign 24 = .ok (.invokevirtual 90, 3) := by decide +kernel
theorem d_X8_assign_27 : decode cX8_assign 27 = .ok (.ireturn, 1) := by decide +kernel
theorem d_X8_assign_28 : decode cX8_assign 28 = .ok (.aload_n 0, 1) := by decide +kernel
theorem d_X8_assign_29 : decode cX8_assign 29 = .ok (.iload_n 1, 1) := by decide +kernel
theorem d_X8_assign_30 : decode cX8_assign 30 = .ok (.iconst 2, 1) := by decide +kernel
theorem d_X8_assign_31 : decode cX8_assign 31 = .ok (.invokevirtual 79, 3) := by decide +kernel
theorem d_X8_assign_34 : decode cX8_assign 34 = .ok (.ifCond .lt 16, 3) := by decide +kernel
theorem d_X8_assign_37 : decode cX8_assign 37 = .ok (.aload_n 0, 1) := by decide +kernel
theorem d_X8_assign_38 : decode cX8_assign 38 = .ok (.bipush 7, 2) := by decide +kernel
theorem d_X8_assign_40 : decode cX8_assign 40 = .ok (.aload_n 0, 1) := by decide +kernel
theorem d_X8_assign_41 : decode cX8_assign 41 = .ok (.iload_n 1, 1) := by decide +kernel
theorem d_X8_assign_42 : decode cX8_assign 42 = .ok (.iconst 2, 1) := by decide +kernel
theorem d_X8_assign_43 : decode cX8_assign 43 = .ok (.invokevirtual 79, 3) := by decide +kernel
theorem d_X8_assign_46 : decode cX8_assign 46 = .ok (.invokevirtual 90, 3) := by decide +kernel
theorem d_X8_assign_49 : decode cX8_assign 49 = .ok (.ireturn, 1) := by decide +kernel
theorem d_X8_assign_50 : decode cX8_assign 50 = .ok (.aload_n 0, 1) := by decide +kernel
theorem d_X8_assign_51 : decode cX8_assign 51 = .ok (.iload_n 2, 1) := by decide +kernel
theorem d_X8_assign_52 : decode cX8_assign 52 = .ok (.invokevirtual 115, 3) := by decide +kernel
theorem d_X8_assign_55 : decode cX8_assign 55 = .ok (.ifCond .eq 15, 3) := by decide +kernel
theorem d_X8_assign_58 : decode cX8_assign 58 = .ok (.aload_n 0, 1) := by decide +kernel
theorem d_X8_assign_59 : decode cX8_assign 59 = .ok (.bipush 8, 2) := by decide +kernel
theorem d_X8_assign_61 : decode cX8_assign 61 = .ok (.aload_n 0, 1) := by decide +kernel
theorem d_X8_assign_62 : decode cX8_assign 62 = .ok (.iload_n 2, 1) := by decide +kernel
theorem d_X8_assign_63 : decode cX8_assign 63 = .ok (.invokevirtual 115, 3) := by decide +kernel
theorem d_X8_assign_66 : decode cX8_assign 66 = .ok (.invokevirtual 90, 3) := by decide +kernel
theorem d_X8_assign_69 : decode cX8_assign 69 = .ok (.ireturn, 1) := by decide +kernel
theorem d_X8_assign_70 : decode cX8_assign 70 = .ok (.aload_n 0, 1) := by decide +kernel
theorem d_X8_assign_71 : decode cX8_assign 71 = .ok (.invokevirtual 100, 3) := by decide +kernel
theorem d_X8_assign_74 : decode cX8_assign 74 = .ok (.aload_n 0, 1) := by decide +kernel
theorem d_X8_assign_75 : decode cX8_assign 75 = .ok (.getfield 9, 3) := by decide +kernel
theorem d_X8_assign_78 : decode cX8_assign 78 = .ok (.iload_n 1, 1) := by decide +kernel
theorem d_X8_assign_79 : decode cX8_assign 79 = .ok (.invokestatic 75, 3) := by decide +kernel
theorem d_X8_assign_82 : decode cX8_assign 82 = .ok (.iconst 2, 1) := by decide +kernel
theorem d_X8_assign_83 : decode cX8_assign 83 = .ok (.iadd, 1) := by decide +kernel
theorem d_X8_assign_84 : decode cX8_assign 84 = .ok (.iload_n 2, 1) := by decide +kernel
theorem d_X8_assign_85 : decode cX8_assign 85 = .ok (.iastore, 1) := by decide +kernel
theorem d_X8_assign_86 : decode cX8_assign 86 = .ok (.aload_n 0, 1) := by decide +kernel
theorem d_X8_assign_87 : decode cX8_assign 87 = .ok (.getfield 9, 3) := by decide +kernel
theorem d_X8_assign_90 : decode cX8_assign 90 = .ok (.iload_n 2, 1) := by decide +kernel
theorem d_X8_assign_91 : decode cX8_assign 91 = .ok (.invokestatic 106, 3) := by decide +kernel
theorem d_X8_assign_94 : decode cX8_assign 94 = .ok (.iconst 3, 1) := by decide +kernel
theorem d_X8_assign_95 : decode cX8_assign 95 = .ok (.iadd, 1) := by decide +kernel
theorem d_X8_assign_96 : decode cX8_assign 96 = .ok (.iload_n 1, 1) := by decide +kernel
theorem d_X8_assign_97 : decode cX8_assign 97 = .ok (.iastore, 1) := by decide +kernel
theorem d_X8_assign_98 : decode cX8_assign 98 = .ok (.aload_n 0, 1) := by decide +kernel
theorem d_X8_assign_99 : decode cX8_assign 99 = .ok (.iload_n 2, 1) := by decide +kernel
theorem d_X8_assign_100 : decode cX8_assign 100 = .ok (.iconst 1, 1) := by decide +kernel
theorem d_X8_assign_101 : decode cX8_assign 101 = .ok (.invokevirtual 109, 3) := by decide +kernel
theorem d_X8_assign_104 : decode cX8_assign 104 = .ok (.ireturn, 1) := by decide +kernel
theorem d_X8_release_0 : decode cX8_release 0 = .ok (.aload_n 0, 1) := by decide +kernel
theorem d_X8_release_1 : decode cX8_release 1 = .ok (.iconst 0, 1) := by decide +kernel
theorem d_X8_release_2 : decode cX8_release 2 = .ok (.putfield 49, 3) := by decide +kernel
theorem d_X8_release_5 : decode cX8_release 5 = .ok (.aload_n 0, 1) := by decide +kernel
theorem d_X8_release_6 : decode cX8_release 6 = .ok (.iload_n 1, 1) := by decide +kernel
theorem d_X8_release_7 : decode cX8_release 7 = .ok (.invokevirtual 103, 3) := by decide +kernel
theorem d_X8_release_10 : decode cX8_release 10 = .ok (.ifCond .ne 10, 3) := by decide +kernel
theorem d_X8_release_13 : decode cX8_release 13 = .ok (.aload_n 0, 1) := by decide +kernel
theorem d_X8_release_14 : decode cX8_release 14 = .ok (.iconst 1, 1) := by decide +kernel
theorem d_X8_release_15 : decode cX8_release 15 = .ok (.iconst 0, 1) := by decide +kernel
theorem d_X8_release_16 : decode cX8_release 16 = .ok (.invokevirtual 90, 3) := by decide +kernel
theorem d_X8_release_19 : decode cX8_release 19 = .ok (.ireturn, 1) := by decide +kernel
theorem d_X8_release_20 : decode cX8_release 20 = .ok (.aload_n 0, 1) := by decide +kernel
theorem d_X8_release_21 : decode cX8_release 21 = .ok (.iload_n 1, 1) := by decide +kernel
theorem d_X8_release_22 : decode cX8_release 22 = .ok (.iconst 2, 1) := by decide +kernel
theorem d_X8_release_23 : decode cX8_release 23 = .ok (.invokevirtual 79, 3) := by decide +kernel
theorem d_X8_release_26 : decode cX8_release 26 = .ok (.istore_n 2, 1) := by decide +kernel
theorem d_X8_release_27 : decode cX8_release 27 = .ok (.iload_n 2, 1) := by decide +kernel
theorem d_X8_release_28 : decode cX8_release 28 = .ok (.ifCond .ge 11, 3) := by decide +kernel
theorem d_X8_release_31 : decode cX8_release 31 = .ok (.aload_n 0, 1) := by decide +kernel
theorem d_X8_release_32 : decode cX8_release 32 = .ok (.bipush 7, 2) := by decide +kernel
theorem d_X8_release_34 : decode cX8_release 34 = .ok (.iconst (-1), 1) := by decide +kernel
theorem d_X8_release_35 : decode cX8_release 35 = .ok (.invokevirtual 90, 3) := by decide +kernel
theorem d_X8_release_38 : decode cX8_release 38 = .ok (.ireturn, 1) := by decide +kernel
theorem d_X8_release_39 : decode cX8_release 39 = .ok (.aload_n 0, 1) := by decide +kernel
theorem d_X8_release_40 : decode cX8_release 40 = .ok (.invokevirtual 100, 3) := by decide +kernel
theorem d_X8_release_43 : decode cX8_release 43 = .ok (.aload_n 0, 1) := by decide +kernel
theorem d_X8_release_44 : decode cX8_release 44 = .ok (.getfield 9, 3) := by decide +kernel
theorem d_X8_release_47 : decode cX8_release 47 = .ok (.iload_n 1, 1) := by decide +kernel
theorem d_X8_release_48 : decode cX8_release 48 = .ok (.invokestatic 75, 3) := by decide +kernel
theorem d_X8_release_51 : decode cX8_release 51 = .ok (.iconst 2, 1) := by decide +kernel
theorem d_X8_release_52 : decode cX8_release 52 = .ok (.iadd, 1) := by decide +kernel
theorem d_X8_release_53 : decode cX8_release 53 = .ok (.iconst (-1), 1) := by decide +kernel
theorem d_X8_release_54 : decode cX8_release 54 = .ok (.iastore, 1) := by decide +kernel
theorem d_X8_release_55 : decode cX8_release 55 = .ok (.aload_n 0, 1) := by decide +kernel
theorem d_X8_release_56 : decode cX8_release 56 = .ok (.getfield 9, 3) := by decide +kernel
theorem d_X8_release_59 : decode cX8_release 59 = .ok (.iload_n 2, 1) := by decide +kernel
theorem d_X8_release_60 : decode cX8_release 60 = .ok (.invokestatic 106, 3) := by decide +kernel
theorem d_X8_release_63 : decode cX8_release 63 = .ok (.iconst 3, 1) := by decide +kernel
theorem d_X8_release_64 : decode cX8_release 64 = .ok (.iadd, 1) := by decide +kernel
theorem d_X8_release_65 : decode cX8_release 65 = .ok (.iconst (-1), 1) := by decide +kernel
theorem d_X8_release_66 : decode cX8_release 66 = .ok (.iastore, 1) := by decide +kernel
theorem d_X8_release_67 : decode cX8_release 67 = .ok (.aload_n 0, 1) := by decide +kernel
theorem d_X8_release_68 : decode cX8_release 68 = .ok (.getfield 9, 3) := by decide +kernel
theorem d_X8_release_71 : decode cX8_release 71 = .ok (.iload_n 2, 1) := by decide +kernel
theorem d_X8_release_72 : decode cX8_release 72 = .ok (.invokestatic 106, 3) := by decide +kernel
theorem d_X8_release_75 : decode cX8_release 75 = .ok (.iconst 2, 1) := by decide +kernel
theorem d_X8_release_76 : decode cX8_release 76 = .ok (.iadd, 1) := by decide +kernel
theorem d_X8_release_77 : decode cX8_release 77 = .ok (.iconst 0, 1) := by decide +kernel
theorem d_X8_release_78 : decode cX8_release 78 = .ok (.iastore, 1) := by decide +kernel
theorem d_X8_release_79 : decode cX8_release 79 = .ok (.iload_n 2, 1) := by decide +kernel
theorem d_X8_release_80 : decode cX8_release 80 = .ok (.ireturn, 1) := by decide +kernel
theorem d_X8_isLoaded_0 : decode cX8_isLoaded 0 = .ok (.aload_n 0, 1) := by decide +kernel
theorem d_X8_isLoaded_1 : decode cX8_isLoaded 1 = .ok (.iload_n 1, 1) := by decide +kernel
theorem d_X8_isLoaded_2 : decode cX8_isLoaded 2 = .ok (.iconst 2, 1) := by decide +kernel
theorem d_X8_isLoaded_3 : decode cX8_isLoaded 3 = .ok (.invokevirtual 79, 3) := by decide +kernel
theorem d_X8_isLoaded_6 : decode cX8_isLoaded 6 = .ok (.ifCond .lt 21, 3) := by decide +kernel
theorem d_X8_isLoaded_9 : decode cX8_isLoaded 9 = .ok (.aload_n 0, 1) := by decide +kernel
theorem d_X8_isLoaded_10 : decode cX8_isLoaded 10 = .ok (.aload_n 0, 1) := by decide +kernel
theorem d_X8_isLoaded_11 : decode cX8_isLoaded 11 = .ok (.iload_n 1, 1) := by decide +kernel
theorem d_X8_isLoaded_12 : decode cX8_isLoaded 12 = .ok (.iconst 2, 1) := by decide +kernel
theorem d_X8_isLoaded_13 : decode cX8_isLoaded 13 = .ok (.invokevirtual 79, 3) := by decide +kernel
theorem d_X8_isLoaded_16 : decode cX8_isLoaded 16 = .ok (.iconst 2, 1) := by decide +kernel
theorem d_X8_isLoaded_17 : decode cX8_isLoaded 17 = .ok (.invokevirtual 109, 3) := by decide +kernel
theorem d_X8_isLoaded_20 : decode cX8_isLoaded 20 = .ok (.ifCond .le 7, 3) := by decide +kernel
theorem d_X8_isLoaded_23 : decode cX8_isLoaded 23 = .ok (.iconst 1, 1) := by decide +kernel
theorem d_X8_isLoaded_24 : decode cX8_isLoaded 24 = .ok (.goto 4, 3) := by decide +kernel
theorem d_X8_isLoaded_27 : decode cX8_isLoaded 27 = .ok (.iconst 0, 1) := by decide +kernel
theorem d_X8_isLoaded_28 : decode cX8_isLoaded 28 = .ok (.ireturn, 1) := by decide +kernel
theorem d_X8_close_0 : decode cX8_close 0 = .ok (.aload_n 0, 1) := by decide +kernel
theorem d_X8_close_1 : decode cX8_close 1 = .ok (.iconst 0, 1) := by decide +kernel
theorem d_X8_close_2 : decode cX8_close 2 = .ok (.putfield 49, 3) := by decide +kernel
theorem d_X8_close_5 : decode cX8_close 5 = .ok (.aload_n 0, 1) := by decide +kernel
theorem d_X8_close_6 : decode cX8_close 6 = .ok (.iload_n 1, 1) := by decide +kernel
theorem d_X8_close_7 : decode cX8_close 7 = .ok (.invokevirtual 86, 3) := by decide +kernel
theorem d_X8_close_10 : decode cX8_close 10 = .ok (.ifCond .ne 10, 3) := by decide +kernel
theorem d_X8_close_13 : decode cX8_close 13 = .ok (.aload_n 0, 1) := by decide +kernel
theorem d_X8_close_14 : decode cX8_close 14 = .ok (.iconst 1, 1) := by decide +kernel
theorem d_X8_close_15 : decode cX8_close 15 = .ok (.iconst 0, 1) := by decide +kernel
theorem d_X8_close_16 : decode cX8_close 16 = .ok (.invokevirtual 90, 3) := by decide +kernel
theorem d_X8_close_19 : decode cX8_close 19 = .ok (.ireturn, 1) := by decide +kernel
theorem d_X8_close_20 : decode cX8_close 20 = .ok (.aload_n 0, 1) := by decide +kernel
theorem d_X8_close_21 : decode cX8_close 21 = .ok (.getfield 9, 3) := by decide +kernel
theorem d_X8_close_24 : decode cX8_close 24 = .ok (.bipush 56, 2) := by decide +kernel
theorem d_X8_close_26 : decode cX8_close 26 = .ok (.iload_n 1, 1) := by decide +kernel
theorem d_X8_close_27 : decode cX8_close 27 = .ok (.iadd, 1) := by decide +kernel
theorem d_X8_close_28 : decode cX8_close 28 = .ok (.iaload, 1) := by decide +kernel
theorem d_X8_close_29 : decode cX8_close 29 = .ok (.iconst 1, 1) := by decide +kernel
theorem d_X8_close_30 : decode cX8_close 30 = .ok (.if_icmp .ne 11, 3) := by decide +kernel
theorem d_X8_close_33 : decode cX8_close 33 = .ok (.aload_n 0, 1) := by decide +kernel
theorem d_X8_close_34 : decode cX8_close 34 = .ok (.bipush 13, 2) := by decide +kernel
theorem d_X8_close_36 : decode cX8_close 36 = .ok (.iconst 0, 1) := by decide +kernel
theorem d_X8_close_37 : decode cX8_close 37 = .ok (.invokevirtual 90, 3) := by decide +kernel
theorem d_X8_close_40 : decode cX8_close 40 = .ok (.ireturn, 1) := by decide +kernel
theorem d_X8_close_41 : decode cX8_close 41 = .ok (.aload_n 0, 1) := by decide +kernel
theorem d_X8_close_42 : decode cX8_close 42 = .ok (.getfield 9, 3) := by decide +kernel
theorem d_X8_close_45 : decode cX8_close 45 = .ok (.bipush 8, 2) := by decide +kernel
theorem d_X8_close_47 : decode cX8_close 47 = .ok (.iload_n 1, 1) := by decide +kernel
theorem d_X8_close_48 : decode cX8_close 48 = .ok (.iadd, 1) := by decide +kernel
theorem d_X8_close_49 : decode cX8_close 49 = .ok (.iaload, 1) := by decide +kernel
theorem d_X8_close_50 : decode cX8_close 50 = .ok (.iconst 1, 1) := by decide +kernel
theorem d_X8_close_51 : decode cX8_close 51 = .ok (.if_icmp .ne 10, 3) := by decide +kernel
theorem d_X8_close_54 : decode cX8_close 54 = .ok (.aload_n 0, 1) := by decide +kernel
theorem d_X8_close_55 : decode cX8_close 55 = .ok (.iconst 4, 1) := by decide +kernel
theorem d_X8_close_56 : decode cX8_close 56 = .ok (.iload_n 1, 1) := by decide +kernel
theorem d_X8_close_57 : decode cX8_close 57 = .ok (.invokevirtual 90, 3) := by decide +kernel
theorem d_X8_close_60 : decode cX8_close 60 = .ok (.ireturn, 1) := by decide +kernel
theorem d_X8_close_61 : decode cX8_close 61 = .ok (.aload_n 0, 1) := by decide +kernel
theorem d_X8_close_62 : decode cX8_close 62 = .ok (.iload_n 1, 1) := by decide +kernel
theorem d_X8_close_63 : decode cX8_close 63 = .ok (.iconst 0, 1) := by decide +kernel
theorem d_X8_close_64 : decode cX8_close 64 = .ok (.iconst (-1), 1) := by decide +kernel
theorem d_X8_close_65 : decode cX8_close 65 = .ok (.invokevirtual 96, 3) := by decide +kernel
theorem d_X8_close_68 : decode cX8_close 68 = .ok (.istore_n 2, 1) := by decide +kernel
theorem d_X8_close_69 : decode cX8_close 69 = .ok (.iload_n 2, 1) := by decide +kernel
theorem d_X8_close_70 : decode cX8_close 70 = .ok (.ifCond .lt 10, 3) := by decide +kernel
theorem d_X8_close_73 : decode cX8_close 73 = .ok (.aload_n 0, 1) := by decide +kernel
theorem d_X8_close_74 : decode cX8_close 74 = .ok (.iconst 5, 1) := by decide +kernel
theorem d_X8_close_75 : decode cX8_close 75 = .ok (.iload_n 2, 1) := by decide +kernel
theorem d_X8_close_76 : decode cX8_close 76 = .ok (.invokevirtual 90, 3) := by decide +kernel
theorem d_X8_close_79 : decode cX8_close 79 = .ok (.ireturn, 1) := by decide +kernel
theorem d_X8_close_80 : decode cX8_close 80 = .ok (.aload_n 0, 1) := by decide +kernel
theorem d_X8_close_81 : decode cX8_close 81 = .ok (.invokevirtual 100, 3) := by decide +kernel
theorem d_X8_close_84 : decode cX8_close 84 = .ok (.aload_n 0, 1) := by decide +kernel
theorem d_X8_close_85 : decode cX8_close 85 = .ok (.getfield 9, 3) := by decide +kernel
theorem d_X8_close_88 : decode cX8_close 88 = .ok (.bipush 56, 2) := by decide +kernel
theorem d_X8_close_90 : decode cX8_close 90 = .ok (.iload_n 1, 1) := by decide +kernel
theorem d_X8_close_91 : decode cX8_close 91 = .ok (.iadd, 1) := by decide +kernel
theorem d_X8_close_92 : decode cX8_close 92 = .ok (.iconst 1, 1) := by decide +kernel
theorem d_X8_close_93 : decode cX8_close 93 = .ok (.iastore, 1) := by decide +kernel
theorem d_X8_close_94 : decode cX8_close 94 = .ok (.aload_n 0, 1) := by decide +kernel
theorem d_X8_close_95 : decode cX8_close 95 = .ok (.invokevirtual 118, 3) := by decide +kernel
theorem d_X8_close_98 : decode cX8_close 98 = .ok (.ireturn, 1) := by decide +kernel
theorem d_X8_open_0 : decode cX8_open 0 = .ok (.aload_n 0, 1) := by decide +kernel
theorem d_X8_open_1 : decode cX8_open 1 = .ok (.iconst 0, 1) := by decide +kernel
theorem d_X8_open_2 : decode cX8_open 2 = .ok (.putfield 49, 3) := by decide +kernel
theorem d_X8_open_5 : decode cX8_open 5 = .ok (.aload_n 0, 1) := by decide +kernel
theorem d_X8_open_6 : decode cX8_open 6 = .ok (.iload_n 1, 1) := by decide +kernel
theorem d_X8_open_7 : decode cX8_open 7 = .ok (.invokevirtual 86, 3) := by decide +kernel
theorem d_X8_open_10 : decode cX8_open 10 = .ok (.ifCond .ne 10, 3) := by decide +kernel
theorem d_X8_open_13 : decode cX8_open 13 = .ok (.aload_n 0, 1) := by decide +kernel
theorem d_X8_open_14 : decode cX8_open 14 = .ok (.iconst 1, 1) := by decide +kernel
theorem d_X8_open_15 : decode cX8_open 15 = .ok (.iconst 0, 1) := by decide +kernel
theorem d_X8_open_16 : decode cX8_open 16 = .ok (.invokevirtual 90, 3) := by decide +kernel
theorem d_X8_open_19 : decode cX8_open 19 = .ok (.ireturn, 1) := by decide +kernel
theorem d_X8_open_20 : decode cX8_open 20 = .ok (.aload_n 0, 1) := by decide +kernel
theorem d_X8_open_21 : decode cX8_open 21 = .ok (.getfield 9, 3) := by decide +kernel
theorem d_X8_open_24 : decode cX8_open 24 = .ok (.bipush 56, 2) := by decide +kernel
theorem d_X8_open_26 : decode cX8_open 26 = .ok (.iload_n 1, 1) := by decide +kernel
theorem d_X8_open_27 : decode cX8_open 27 = .ok (.iadd, 1) := by decide +kernel
theorem d_X8_open_28 : decode cX8_open 28 = .ok (.iaload, 1) := by decide +kernel
theorem d_X8_open_29 : decode cX8_open 29 = .ok (.ifCond .ne 11, 3) := by decide +kernel
theorem d_X8_open_32 : decode cX8_open 32 = .ok (.aload_n 0, 1) := by decide +kernel
theorem d_X8_open_33 : decode cX8_open 33 = .ok (.bipush 13, 2) := by decide +kernel
theorem d_X8_open_35 : decode cX8_open 35 = .ok (.iconst 0, 1) := by decide +kernel
theorem d_X8_open_36 : decode cX8_open 36 = .ok (.invokevirtual 90, 3) := by decide +kernel
theorem d_X8_open_39 : decode cX8_open 39 = .ok (.ireturn, 1) := by decide +kernel
theorem d_X8_open_40 : decode cX8_open 40 = .ok (.aload_n 0, 1) := by decide +kernel
theorem d_X8_open_41 : decode cX8_open 41 = .ok (.invokevirtual 100, 3) := by decide +kernel
theorem d_X8_open_44 : decode cX8_open 44 = .ok (.aload_n 0, 1) := by decide +kernel
theorem d_X8_open_45 : decode cX8_open 45 = .ok (.getfield 9, 3) := by decide +kernel
theorem d_X8_open_48 : decode cX8_open 48 = .ok (.bipush 56, 2) := by decide +kernel
theorem d_X8_open_50 : decode cX8_open 50 = .ok (.iload_n 1, 1) := by decide +kernel
theorem d_X8_open_51 : decode cX8_open 51 = .ok (.iadd, 1) := by decide +kernel
theorem d_X8_open_52 : decode cX8_open 52 = .ok (.iconst 0, 1) := by decide +kernel
theorem d_X8_open_53 : decode cX8_open 53 = .ok (.iastore, 1) := by decide +kernel
theorem d_X8_open_54 : decode cX8_open 54 = .ok (.aload_n 0, 1) := by decide +kernel
theorem d_X8_open_55 : decode cX8_open 55 = .ok (.invokevirtual 118, 3) := by decide +kernel
theorem d_X8_open_58 : decode cX8_open 58 = .ok (.ireturn, 1) := by decide +kernel
theorem d_X8_mostOf_0 : decode cX8_mostOf 0 = .ok (.iload_n 0, 1) := by decide +kernel
theorem d_X8_mostOf_1 : decode cX8_mostOf 1 = .ok (.ifCond .ne 8, 3) := by decide +kernel
theorem d_X8_mostOf_4 : decode cX8_mostOf 4 = .ok (.bipush 20, 2) := by decide +kernel
theorem d_X8_mostOf_6 : decode cX8_mostOf 6 = .ok (.goto 14, 3) := by decide +kernel
theorem d_X8_mostOf_9 : decode cX8_mostOf 9 = .ok (.iload_n 0, 1) := by decide +kernel
theorem d_X8_mostOf_10 : decode cX8_mostOf 10 = .ok (.iconst 1, 1) := by decide +kernel
theorem d_X8_mostOf_11 : decode cX8_mostOf 11 = .ok (.if_icmp .ne 7, 3) := by decide +kernel
theorem d_X8_mostOf_14 : decode cX8_mostOf 14 = .ok (.iconst 3, 1) := by decide +kernel
theorem d_X8_mostOf_15 : decode cX8_mostOf 15 = .ok (.goto 5, 3) := by decide +kernel
theorem d_X8_mostOf_18 : decode cX8_mostOf 18 = .ok (.bipush 30, 2) := by decide +kernel
theorem d_X8_mostOf_20 : decode cX8_mostOf 20 = .ok (.ireturn, 1) := by decide +kernel
theorem d_X8_set_0 : decode cX8_set 0 = .ok (.aload_n 0, 1) := by decide +kernel
theorem d_X8_set_1 : decode cX8_set 1 = .ok (.iconst 0, 1) := by decide +kernel
theorem d_X8_set_2 : decode cX8_set 2 = .ok (.putfield 49, 3) := by decide +kernel
theorem d_X8_set_5 : decode cX8_set 5 = .ok (.iload_n 1, 1) := by decide +kernel
theorem d_X8_set_6 : decode cX8_set 6 = .ok (.iconst 0, 1) := by decide +kernel
theorem d_X8_set_7 : decode cX8_set 7 = .ok (.iconst 2, 1) := by decide +kernel
theorem d_X8_set_8 : decode cX8_set 8 = .ok (.invokestatic 71, 3) := by decide +kernel
theorem d_X8_set_11 : decode cX8_set 11 = .ok (.ifCond .eq 15, 3) := by decide +kernel
theorem d_X8_set_14 : decode cX8_set 14 = .ok (.iload_n 2, 1) := by decide +kernel
theorem d_X8_set_15 : decode cX8_set 15 = .ok (.iconst 1, 1) := by decide +kernel
theorem d_X8_set_16 : decode cX8_set 16 = .ok (.iload_n 1, 1) := by decide +kernel
theorem d_X8_set_17 : decode cX8_set 17 = .ok (.invokestatic 121, 3) := by decide +kernel
theorem d_X8_set_20 : decode cX8_set 20 = .ok (.invokestatic 71, 3) := by decide +kernel
theorem d_X8_set_23 : decode cX8_set 23 = .ok (.ifCond .ne 10, 3) := by decide +kernel
theorem d_X8_set_26 : decode cX8_set 26 = .ok (.aload_n 0, 1) := by decide +kernel
theorem d_X8_set_27 : decode cX8_set 27 = .ok (.iconst 2, 1) := by decide +kernel
theorem d_X8_set_28 : decode cX8_set 28 = .ok (.iconst 0, 1) := by decide +kernel
theorem d_X8_set_29 : decode cX8_set 29 = .ok (.invokevirtual 90, 3) := by decide +kernel
theorem d_X8_set_32 : decode cX8_set 32 = .ok (.ireturn, 1) := by decide +kernel
theorem d_X8_set_33 : decode cX8_set 33 = .ok (.aload_n 0, 1) := by decide +kernel
theorem d_X8_set_34 : decode cX8_set 34 = .ok (.invokevirtual 100, 3) := by decide +kernel
theorem d_X8_set_37 : decode cX8_set 37 = .ok (.aload_n 0, 1) := by decide +kernel
theorem d_X8_set_38 : decode cX8_set 38 = .ok (.getfield 9, 3) := by decide +kernel
theorem d_X8_set_41 : decode cX8_set 41 = .ok (.iconst 5, 1) := by decide +kernel
theorem d_X8_set_42 : decode cX8_set 42 = .ok (.iload_n 1, 1) := by decide +kernel
theorem d_X8_set_43 : decode cX8_set 43 = .ok (.iadd, 1) := by decide +kernel
theorem d_X8_set_44 : decode cX8_set 44 = .ok (.iaload, 1) := by decide +kernel
theorem d_X8_set_45 : decode cX8_set 45 = .ok (.istore_n 3, 1) := by decide +kernel
theorem d_X8_set_46 : decode cX8_set 46 = .ok (.aload_n 0, 1) := by decide +kernel
theorem d_X8_set_47 : decode cX8_set 47 = .ok (.getfield 9, 3) := by decide +kernel
theorem d_X8_set_50 : decode cX8_set 50 = .ok (.iconst 5, 1) := by decide +kernel
theorem d_X8_set_51 : decode cX8_set 51 = .ok (.iload_n 1, 1) := by decide +kernel
theorem d_X8_set_52 : decode cX8_set 52 = .ok (.iadd, 1) := by decide +kernel
theorem d_X8_set_53 : decode cX8_set 53 = .ok (.iload_n 2, 1) := by decide +kernel
theorem d_X8_set_54 : decode cX8_set 54 = .ok (.iastore, 1) := by decide +kernel
theorem d_X8_set_55 : decode cX8_set 55 = .ok (.iload_n 3, 1) := by decide +kernel
theorem d_X8_set_56 : decode cX8_set 56 = .ok (.ireturn, 1) := by decide +kernel
theorem d_X8_mayGo_0 : decode cX8_mayGo 0 = .ok (.aload_n 0, 1) := by decide +kernel
theorem d_X8_mayGo_1 : decode cX8_mayGo 1 = .ok (.iload_n 3, 1) := by decide +kernel
theorem d_X8_mayGo_2 : decode cX8_mayGo 2 = .ok (.invokevirtual 93, 3) := by decide +kernel
theorem d_X8_mayGo_5 : decode cX8_mayGo 5 = .ok (.istore 5, 2) := by decide +kernel
theorem d_X8_mayGo_7 : decode cX8_mayGo 7 = .ok (.iconst 0, 1) := by decide +kernel
theorem d_X8_mayGo_8 : decode cX8_mayGo 8 = .ok (.istore 6, 2) := by decide +kernel
theorem d_X8_mayGo_10 : decode cX8_mayGo 10 = .ok (.iload 6, 2) := by decide +kernel
theorem d_X8_mayGo_12 : decode cX8_mayGo 12 = .ok (.aload_n 0, 1) := by decide +kernel
theorem d_X8_mayGo_13 : decode cX8_mayGo 13 = .ok (.getfield 9, 3) := by decide +kernel
theorem d_X8_mayGo_16 : decode cX8_mayGo 16 = .ok (.iconst 3, 1) := by decide +kernel
theorem d_X8_mayGo_17 : decode cX8_mayGo 17 = .ok (.iaload, 1) := by decide +kernel
theorem d_X8_mayGo_18 : decode cX8_mayGo 18 = .ok (.if_icmp .ge 67, 3) := by decide +kernel
theorem d_X8_mayGo_21 : decode cX8_mayGo 21 = .ok (.iload 5, 2) := by decide +kernel
theorem d_X8_mayGo_23 : decode cX8_mayGo 23 = .ok (.ifCond .eq 62, 3) := by decide +kernel
theorem d_X8_mayGo_26 : decode cX8_mayGo 26 = .ok (.iload 6, 2) := by decide +kernel
theorem d_X8_mayGo_28 : decode cX8_mayGo 28 = .ok (.iload_n 1, 1) := by decide +kernel
theorem d_X8_mayGo_29 : decode cX8_mayGo 29 = .ok (.if_icmp .eq 43, 3) := by decide +kernel
theorem d_X8_mayGo_32 : decode cX8_mayGo 32 = .ok (.aload_n 0, 1) := by decide +kernel
theorem d_X8_mayGo_33 : decode cX8_mayGo 33 = .ok (.iload 6, 2) := by decide +kernel
theorem d_X8_mayGo_35 : decode cX8_mayGo 35 = .ok (.iload 4, 2) := by decide +kernel
theorem d_X8_mayGo_37 : decode cX8_mayGo 37 = .ok (.iconst 1, 1) := by decide +kernel
theorem d_X8_mayGo_38 : decode cX8_mayGo 38 = .ok (.iadd, 1) := by decide +kernel
theorem d_X8_mayGo_39 : decode cX8_mayGo 39 = .ok (.invokevirtual 83, 3) := by decide +kernel
theorem d_X8_mayGo_42 : decode cX8_mayGo 42 = .ok (.iload_n 3, 1) := by decide +kernel
theorem d_X8_mayGo_43 : decode cX8_mayGo 43 = .ok (.if_icmp .eq 33, 3) := by decide +kernel
theorem d_X8_mayGo_46 : decode cX8_mayGo 46 = .ok (.aload_n 0, 1) := by decide +kernel
theorem d_X8_mayGo_47 : decode cX8_mayGo 47 = .ok (.iload 6, 2) := by decide +kernel
theorem d_X8_mayGo_49 : decode cX8_mayGo 49 = .ok (.iload 4, 2) := by decide +kernel
theorem d_X8_mayGo_51 : decode cX8_mayGo 51 = .ok (.iconst 1, 1) := by decide +kernel
theorem d_X8_mayGo_52 : decode cX8_mayGo 52 = .ok (.iadd, 1) := by decide +kernel
theorem d_X8_mayGo_53 : decode cX8_mayGo 53 = .ok (.invokevirtual 83, 3) := by decide +kernel
theorem d_X8_mayGo_56 : decode cX8_mayGo 56 = .ok (.iload_n 2, 1) := by decide +kernel
theorem d_X8_mayGo_57 : decode cX8_mayGo 57 = .ok (.if_icmp .ne 15, 3) := by decide +kernel
theorem d_X8_mayGo_60 : decode cX8_mayGo 60 = .ok (.aload_n 0, 1) := by decide +kernel
theorem d_X8_mayGo_61 : decode cX8_mayGo 61 = .ok (.iload 6, 2) := by decide +kernel
theorem d_X8_mayGo_63 : decode cX8_mayGo 63 = .ok (.iload 4, 2) := by decide +kernel
theorem d_X8_mayGo_65 : decode cX8_mayGo 65 = .ok (.invokevirtual 83, 3) := by decide +kernel
theorem d_X8_mayGo_68 : decode cX8_mayGo 68 = .ok (.iload_n 3, 1) := by decide +kernel
theorem d_X8_mayGo_69 : decode cX8_mayGo 69 = .ok (.if_icmp .eq 7, 3) := by decide +kernel
theorem d_X8_mayGo_72 : decode cX8_mayGo 72 = .ok (.iconst 1, 1) := by decide +kernel
theorem d_X8_mayGo_73 : decode cX8_mayGo 73 = .ok (.goto 4, 3) := by decide +kernel
theorem d_X8_mayGo_76 : decode cX8_mayGo 76 = .ok (.iconst 0, 1) := by decide +kernel
theorem d_X8_mayGo_77 : decode cX8_mayGo 77 = .ok (.istore 5, 2) := by decide +kernel
theorem d_X8_mayGo_79 : decode cX8_mayGo 79 = .ok (.iinc 6 1, 3) := by decide +kernel
theorem d_X8_mayGo_82 : decode cX8_mayGo 82 = .ok (.goto (-72), 3) := by decide +kernel
theorem d_X8_mayGo_85 : decode cX8_mayGo 85 = .ok (.iload 5, 2) := by decide +kernel
theorem d_X8_mayGo_87 : decode cX8_mayGo 87 = .ok (.ireturn, 1) := by decide +kernel
theorem d_X8_findComing_0 : decode cX8_findComing 0 = .ok (.iconst 0, 1) := by decide +kernel
theorem d_X8_findComing_1 : decode cX8_findComing 1 = .ok (.istore_n 2, 1) := by decide +kernel
theorem d_X8_findComing_2 : decode cX8_findComing 2 = .ok (.iload_n 2, 1) := by decide +kernel
theorem d_X8_findComing_3 : decode cX8_findComing 3 = .ok (.sipush 1488, 3) := by decide +kernel
theorem d_X8_findComing_6 : decode cX8_findComing 6 = .ok (.if_icmp .ge 16, 3) := by decide +kernel
theorem d_X8_findComing_9 : decode cX8_findComing 9 = .ok (.aload_n 0, 1) := by decide +kernel
theorem d_X8_findComing_10 : decode cX8_findComing 10 = .ok (.getfield 22, 3) := by decide +kernel
theorem d_X8_findComing_13 : decode cX8_findComing 13 = .ok (.iload_n 2, 1) := by decide +kernel
theorem d_X8_findComing_14 : decode cX8_findComing 14 = .ok (.iconst 0, 1) := by decide +kernel
theorem d_X8_findComing_15 : decode cX8_findComing 15 = .ok (.bastore, 1) := by decide +kernel
theorem d_X8_findComing_16 : decode cX8_findComing 16 = .ok (.iinc 2 1, 3) := by decide +kernel
theorem d_X8_findComing_19 : decode cX8_findComing 19 = .ok (.goto (-17), 3) := by decide +kernel
theorem d_X8_findComing_22 : decode cX8_findComing 22 = .ok (.aload_n 0, 1) := by decide +kernel
theorem d_X8_findComing_23 : decode cX8_findComing 23 = .ok (.getfield 22, 3) := by decide +kernel
theorem d_X8_findComing_26 : decode cX8_findComing 26 = .ok (.aload_n 0, 1) := by decide +kernel
theorem d_X8_findComing_27 : decode cX8_findComing 27 = .ok (.iload_n 1, 1) := by decide +kernel
theorem d_X8_findComing_28 : decode cX8_findComing 28 = .ok (.iconst 0, 1) := by decide +kernel
theorem d_X8_findComing_29 : decode cX8_findComing 29 = .ok (.invokevirtual 79, 3) := by decide +kernel
theorem d_X8_findComing_32 : decode cX8_findComing 32 = .ok (.iconst 1, 1) := by decide +kernel
theorem d_X8_findComing_33 : decode cX8_findComing 33 = .ok (.bastore, 1) := by decide +kernel
theorem d_X8_findComing_34 : decode cX8_findComing 34 = .ok (.iconst 0, 1) := by decide +kernel
theorem d_X8_findComing_35 : decode cX8_findComing 35 = .ok (.istore_n 2, 1) := by decide +kernel
theorem d_X8_findComing_36 : decode cX8_findComing 36 = .ok (.iload_n 2, 1) := by decide +kernel
theorem d_X8_findComing_37 : decode cX8_findComing 37 = .ok (.aload_n 0, 1) := by decide +kernel
theorem d_X8_findComing_38 : decode cX8_findComing 38 = .ok (.getfield 9, 3) := by decide +kernel
theorem d_X8_findComing_41 : decode cX8_findComing 41 = .ok (.bipush 7, 2) := by decide +kernel
theorem d_X8_findComing_43 : decode cX8_findComing 43 = .ok (.iaload, 1) := by decide +kernel
theorem d_X8_findComing_44 : decode cX8_findComing 44 = .ok (.if_icmp .ge 95, 3) := by decide +kernel
theorem d_X8_findComing_47 : decode cX8_findComing 47 = .ok (.iconst 0, 1) := by decide +kernel
theorem d_X8_findComing_48 : decode cX8_findComing 48 = .ok (.istore_n 3, 1) := by decide +kernel
theorem d_X8_findComing_49 : decode cX8_findComing 49 = .ok (.iload_n 3, 1) := by decide +kernel
theorem d_X8_findComing_50 : decode cX8_findComing 50 = .ok (.aload_n 0, 1) := by decide +kernel
theorem d_X8_findComing_51 : decode cX8_findComing 51 = .ok (.invokevirtual 67, 3) := by decide +kernel
theorem d_X8_findComing_54 : decode cX8_findComing 54 = .ok (.if_icmp .ge 79, 3) := by decide +kernel
theorem d_X8_findComing_57 : decode cX8_findComing 57 = .ok (.iconst 0, 1) := by decide +kernel
theorem d_X8_findComing_58 : decode cX8_findComing 58 = .ok (.istore 4, 2) := by decide +kernel
theorem d_X8_findComing_60 : decode cX8_findComing 60 = .ok (.iload 4, 2) := by decide +kernel
theorem d_X8_findComing_62 : decode cX8_findComing 62 = .ok (.iconst 5, 1) := by decide +kernel
theorem d_X8_findComing_63 : decode cX8_findComing 63 = .ok (.if_icmp .ge 64, 3) := by decide +kernel
theorem d_X8_findComing_66 : decode cX8_findComing 66 = .ok (.aload_n 0, 1) := by decide +kernel
theorem d_X8_findComing_67 : decode cX8_findComing 67 = .ok (.getfield 22, 3) := by decide +kernel
theorem d_X8_findComing_70 : decode cX8_findComing 70 = .ok (.bipush 48, 2) := by decide +kernel
theorem d_X8_findComing_72 : decode cX8_findComing 72 = .ok (.iload_n 2, 1) := by decide +kernel
theorem d_X8_findComing_73 : decode cX8_findComing 73 = .ok (.imul, 1) := by decide +kernel
theorem d_X8_findComing_74 : decode cX8_findComing 74 = .ok (.iload_n 3, 1) := by decide +kernel
theorem d_X8_findComing_75 : decode cX8_findComing 75 = .ok (.iadd, 1) := by decide +kernel
theorem d_X8_findComing_76 : decode cX8_findComing 76 = .ok (.baload, 1) := by decide +kernel
theorem d_X8_findComing_77 : decode cX8_findComing 77 = .ok (.ifCond .eq 50, 3) := by decide +kernel
theorem d_X8_findComing_80 : decode cX8_findComing 80 = .ok (.aload_n 0, 1) := by decide +kernel
theorem d_X8_findComing_81 : decode cX8_findComing 81 = .ok (.iload_n 3, 1) := by decide +kernel
theorem d_X8_findComing_82 : decode cX8_findComing 82 = .ok (.iload 4, 2) := by decide +kernel
theorem d_X8_findComing_84 : decode cX8_findComing 84 = .ok (.invokevirtual 124, 3) := by decide +kernel
theorem d_X8_findComing_87 : decode cX8_findComing 87 = .ok (.istore 5, 2) := by decide +kernel
theorem d_X8_findComing_89 : decode cX8_findComing 89 = .ok (.iload 5, 2) := by decide +kernel
theorem d_X8_findComing_91 : decode cX8_findComing 91 = .ok (.ifCond .lt 30, 3) := by decide +kernel
theorem d_X8_findComing_94 : decode cX8_findComing 94 = .ok (.aload_n 0, 1) := by decide +kernel
theorem d_X8_findComing_95 : decode cX8_findComing 95 = .ok (.iload_n 1, 1) := by decide +kernel
theorem d_X8_findComing_96 : decode cX8_findComing 96 = .ok (.iload_n 3, 1) := by decide +kernel
theorem d_X8_findComing_97 : decode cX8_findComing 97 = .ok (.iload 5, 2) := by decide +kernel
theorem d_X8_findComing_99 : decode cX8_findComing 99 = .ok (.iload_n 2, 1) := by decide +kernel
theorem d_X8_findComing_100 : decode cX8_findComing 100 = .ok (.invokevirtual 127, 3) := by decide +kernel
theorem d_X8_findComing_103 : decode cX8_findComing 103 = .ok (.ifCond .eq 18, 3) := by decide +kernel
theorem d_X8_findComing_106 : decode cX8_findComing 106 = .ok (.aload_n 0, 1) := by decide +kernel
theorem d_X8_findComing_107 : decode cX8_findComing 107 = .ok (.getfield 22, 3) := by decide +kernel
theorem d_X8_findComing_110 : decode cX8_findComing 110 = .ok (.bipush 48, 2) := by decide +kernel
theorem d_X8_findComing_112 : decode cX8_findComing 112 = .ok (.iload_n 2, 1) := by decide +kernel
theorem d_X8_findComing_113 : decode cX8_findComing 113 = .ok (.iconst 1, 1) := by decide +kernel
theorem d_X8_findComing_114 : decode cX8_findComing 114 = .ok (.iadd, 1) := by decide +kernel
theorem d_X8_findComing_115 : decode cX8_findComing 115 = .ok (.imul, 1) := by decide +kernel
theorem d_X8_findComing_116 : decode cX8_findComing 116 = .ok (.iload 5, 2) := by decide +kernel
theorem d_X8_findComing_118 : decode cX8_findComing 118 = .ok (.iadd, 1) := by decide +kernel
theorem d_X8_findComing_119 : decode cX8_findComing 119 = .ok (.iconst 1, 1) := by decide +kernel
theorem d_X8_findComing_120 : decode cX8_findComing 120 = .ok (.bastore, 1) := by decide +kernel
theorem d_X8_findComing_121 : decode cX8_findComing 121 = .ok (.iinc 4 1, 3) := by decide +kernel
theorem d_X8_findComing_124 : decode cX8_findComing 124 = .ok (.goto (-64), 3) := by decide +kernel
theorem d_X8_findComing_127 : decode cX8_findComing 127 = .ok (.iinc 3 1, 3) := by decide +kernel
theorem d_X8_findComing_130 : decode cX8_findComing 130 = .ok (.goto (-81), 3) := by decide +kernel
theorem d_X8_findComing_133 : decode cX8_findComing 133 = .ok (.iinc 2 1, 3) := by decide +kernel
theorem d_X8_findComing_136 : decode cX8_findComing 136 = .ok (.goto (-100), 3) := by decide +kernel
theorem d_X8_findComing_139 : decode cX8_findComing 139 = .ok (.return_, 1) := by decide +kernel
theorem d_X8_canEnd_0 : decode cX8_canEnd 0 = .ok (.iconst 0, 1) := by decide +kernel
theorem d_X8_canEnd_1 : decode cX8_canEnd 1 = .ok (.istore 4, 2) := by decide +kernel
theorem d_X8_canEnd_3 : decode cX8_canEnd 3 = .ok (.iconst 0, 1) := by decide +kernel
theorem d_X8_canEnd_4 : decode cX8_canEnd 4 = .ok (.istore 5, 2) := by decide +kernel
theorem d_X8_canEnd_6 : decode cX8_canEnd 6 = .ok (.iload 5, 2) := by decide +kernel
theorem d_X8_canEnd_8 : decode cX8_canEnd 8 = .ok (.iconst 4, 1) := by decide +kernel
theorem d_X8_canEnd_9 : decode cX8_canEnd 9 = .ok (.if_icmp .ge 66, 3) := by decide +kernel
theorem d_X8_canEnd_12 : decode cX8_canEnd 12 = .ok (.aload_n 0, 1) := by decide +kernel
theorem d_X8_canEnd_13 : decode cX8_canEnd 13 = .ok (.iload_n 2, 1) := by decide +kernel
theorem d_X8_canEnd_14 : decode cX8_canEnd 14 = .ok (.iload 5, 2) := by decide +kernel
theorem d_X8_canEnd_16 : decode cX8_canEnd 16 = .ok (.invokevirtual 124, 3) := by decide +kernel
theorem d_X8_canEnd_19 : decode cX8_canEnd 19 = .ok (.istore 6, 2) := by decide +kernel
theorem d_X8_canEnd_21 : decode cX8_canEnd 21 = .ok (.iload 4, 2) := by decide +kernel
theorem d_X8_canEnd_23 : decode cX8_canEnd 23 = .ok (.ifCond .ne 39, 3) := by decide +kernel
theorem d_X8_canEnd_26 : decode cX8_canEnd 26 = .ok (.iload 6, 2) := by decide +kernel
theorem d_X8_canEnd_28 : decode cX8_canEnd 28 = .ok (.ifCond .lt 38, 3) := by decide +kernel
theorem d_X8_canEnd_31 : decode cX8_canEnd 31 = .ok (.aload_n 0, 1) := by decide +kernel
theorem d_X8_canEnd_32 : decode cX8_canEnd 32 = .ok (.getfield 22, 3) := by decide +kernel
theorem d_X8_canEnd_35 : decode cX8_canEnd 35 = .ok (.bipush 48, 2) := by decide +kernel
theorem d_X8_canEnd_37 : decode cX8_canEnd 37 = .ok (.iload_n 3, 1) := by decide +kernel
theorem d_X8_canEnd_38 : decode cX8_canEnd 38 = .ok (.iconst 1, 1) := by decide +kernel
theorem d_X8_canEnd_39 : decode cX8_canEnd 39 = .ok (.isub, 1) := by decide +kernel
theorem d_X8_canEnd_40 : decode cX8_canEnd 40 = .ok (.imul, 1) := by decide +kernel
theorem d_X8_canEnd_41 : decode cX8_canEnd 41 = .ok (.iload 6, 2) := by decide +kernel
theorem d_X8_canEnd_43 : decode cX8_canEnd 43 = .ok (.iadd, 1) := by decide +kernel
theorem d_X8_canEnd_44 : decode cX8_canEnd 44 = .ok (.baload, 1) := by decide +kernel
theorem d_X8_canEnd_45 : decode cX8_canEnd 45 = .ok (.ifCond .eq 21, 3) := by decide +kernel
theorem d_X8_canEnd_48 : decode cX8_canEnd 48 = .ok (.aload_n 0, 1) := by decide +kernel
theorem d_X8_canEnd_49 : decode cX8_canEnd 49 = .ok (.iload_n 1, 1) := by decide +kernel
theorem d_X8_canEnd_50 : decode cX8_canEnd 50 = .ok (.iload 6, 2) := by decide +kernel
theorem d_X8_canEnd_52 : decode cX8_canEnd 52 = .ok (.iload_n 2, 1) := by decide +kernel
theorem d_X8_canEnd_53 : decode cX8_canEnd 53 = .ok (.iload_n 3, 1) := by decide +kernel
theorem d_X8_canEnd_54 : decode cX8_canEnd 54 = .ok (.iconst 1, 1) := by decide +kernel
theorem d_X8_canEnd_55 : decode cX8_canEnd 55 = .ok (.isub, 1) := by decide +kernel
theorem d_X8_canEnd_56 : decode cX8_canEnd 56 = .ok (.invokevirtual 127, 3) := by decide +kernel
theorem d_X8_canEnd_59 : decode cX8_canEnd 59 = .ok (.ifCond .eq 7, 3) := by decide +kernel
theorem d_X8_canEnd_62 : decode cX8_canEnd 62 = .ok (.iconst 1, 1) := by decide +kernel
theorem d_X8_canEnd_63 : decode cX8_canEnd 63 = .ok (.goto 4, 3) := by decide +kernel
theorem d_X8_canEnd_66 : decode cX8_canEnd 66 = .ok (.iconst 0, 1) := by decide +kernel
theorem d_X8_canEnd_67 : decode cX8_canEnd 67 = .ok (.istore 4, 2) := by decide +kernel
theorem d_X8_canEnd_69 : decode cX8_canEnd 69 = .ok (.iinc 5 1, 3) := by decide +kernel
theorem d_X8_canEnd_72 : decode cX8_canEnd 72 = .ok (.goto (-66), 3) := by decide +kernel
theorem d_X8_canEnd_75 : decode cX8_canEnd 75 = .ok (.iload 4, 2) := by decide +kernel
theorem d_X8_canEnd_77 : decode cX8_canEnd 77 = .ok (.ifCond .eq 19, 3) := by decide +kernel
theorem d_X8_canEnd_80 : decode cX8_canEnd 80 = .ok (.aload_n 0, 1) := by decide +kernel
theorem d_X8_canEnd_81 : decode cX8_canEnd 81 = .ok (.iload_n 2, 1) := by decide +kernel
theorem d_X8_canEnd_82 : decode cX8_canEnd 82 = .ok (.iload_n 3, 1) := by decide +kernel
theorem d_X8_canEnd_83 : decode cX8_canEnd 83 = .ok (.iconst 1, 1) := by decide +kernel
theorem d_X8_canEnd_84 : decode cX8_canEnd 84 = .ok (.iadd, 1) := by decide +kernel
theorem d_X8_canEnd_85 : decode cX8_canEnd 85 = .ok (.iload_n 1, 1) := by decide +kernel
theorem d_X8_canEnd_86 : decode cX8_canEnd 86 = .ok (.invokevirtual 96, 3) := by decide +kernel
theorem d_X8_canEnd_89 : decode cX8_canEnd 89 = .ok (.ifCond .ge 7, 3) := by decide +kernel
theorem d_X8_canEnd_92 : decode cX8_canEnd 92 = .ok (.iconst 1, 1) := by decide +kernel
theorem d_X8_canEnd_93 : decode cX8_canEnd 93 = .ok (.goto 4, 3) := by decide +kernel
theorem d_X8_canEnd_96 : decode cX8_canEnd 96 = .ok (.iconst 0, 1) := by decide +kernel
theorem d_X8_canEnd_97 : decode cX8_canEnd 97 = .ok (.ireturn, 1) := by decide +kernel
theorem d_X8_fewest_0 : decode cX8_fewest 0 = .ok (.aload_n 0, 1) := by decide +kernel
theorem d_X8_fewest_1 : decode cX8_fewest 1 = .ok (.iload_n 1, 1) := by decide +kernel
theorem d_X8_fewest_2 : decode cX8_fewest 2 = .ok (.invokevirtual 131, 3) := by decide +kernel
theorem d_X8_fewest_5 : decode cX8_fewest 5 = .ok (.iconst 1, 1) := by decide +kernel
theorem d_X8_fewest_6 : decode cX8_fewest 6 = .ok (.istore_n 3, 1) := by decide +kernel
theorem d_X8_fewest_7 : decode cX8_fewest 7 = .ok (.iload_n 3, 1) := by decide +kernel
theorem d_X8_fewest_8 : decode cX8_fewest 8 = .ok (.aload_n 0, 1) := by decide +kernel
theorem d_X8_fewest_9 : decode cX8_fewest 9 = .ok (.getfield 9, 3) := by decide +kernel
theorem d_X8_fewest_12 : decode cX8_fewest 12 = .ok (.bipush 7, 2) := by decide +kernel
theorem d_X8_fewest_14 : decode cX8_fewest 14 = .ok (.iaload, 1) := by decide +kernel
theorem d_X8_fewest_15 : decode cX8_fewest 15 = .ok (.if_icmp .gt 19, 3) := by decide +kernel
theorem d_X8_fewest_18 : decode cX8_fewest 18 = .ok (.aload_n 0, 1) := by decide +kernel
theorem d_X8_fewest_19 : decode cX8_fewest 19 = .ok (.iload_n 1, 1) := by decide +kernel
theorem d_X8_fewest_20 : decode cX8_fewest 20 = .ok (.iload_n 2, 1) := by decide +kernel
theorem d_X8_fewest_21 : decode cX8_fewest 21 = .ok (.iload_n 3, 1) := by decide +kernel
theorem d_X8_fewest_22 : decode cX8_fewest 22 = .ok (.invokevirtual 135, 3) := by decide +kernel
theorem d_X8_fewest_25 : decode cX8_fewest 25 = .ok (.ifCond .ne 9, 3) := by decide +kernel
theorem d_X8_fewest_28 : decode cX8_fewest 28 = .ok (.iinc 3 1, 3) := by decide +kernel
theorem d_X8_fewest_31 : decode cX8_fewest 31 = .ok (.goto (-24), 3) := by decide +kernel
theorem d_X8_fewest_34 : decode cX8_fewest 34 = .ok (.iload_n 3, 1) := by decide +kernel
theorem d_X8_fewest_35 : decode cX8_fewest 35 = .ok (.aload_n 0, 1) := by decide +kernel
theorem d_X8_fewest_36 : decode cX8_fewest 36 = .ok (.getfield 9, 3) := by decide +kernel
theorem d_X8_fewest_39 : decode cX8_fewest 39 = .ok (.bipush 7, 2) := by decide +kernel
theorem d_X8_fewest_41 : decode cX8_fewest 41 = .ok (.iaload, 1) := by decide +kernel
theorem d_X8_fewest_42 : decode cX8_fewest 42 = .ok (.if_icmp .gt 7, 3) := by decide +kernel
theorem d_X8_fewest_45 : decode cX8_fewest 45 = .ok (.iload_n 3, 1) := by decide +kernel
theorem d_X8_fewest_46 : decode cX8_fewest 46 = .ok (.goto 4, 3) := by decide +kernel
theorem d_X8_fewest_49 : decode cX8_fewest 49 = .ok (.iconst (-1), 1) := by decide +kernel
theorem d_X8_fewest_50 : decode cX8_fewest 50 = .ok (.ireturn, 1) := by decide +kernel
theorem d_X8_findGoing_0 : decode cX8_findGoing 0 = .ok (.iconst 0, 1) := by decide +kernel
theorem d_X8_findGoing_1 : decode cX8_findGoing 1 = .ok (.istore 4, 2) := by decide +kernel
theorem d_X8_findGoing_3 : decode cX8_findGoing 3 = .ok (.iload 4, 2) := by decide +kernel
theorem d_X8_findGoing_5 : decode cX8_findGoing 5 = .ok (.sipush 1488, 3) := by decide +kernel
theorem d_X8_findGoing_8 : decode cX8_findGoing 8 = .ok (.if_icmp .ge 17, 3) := by decide +kernel
theorem d_X8_findGoing_11 : decode cX8_findGoing 11 = .ok (.aload_n 0, 1) := by decide +kernel
theorem d_X8_findGoing_12 : decode cX8_findGoing 12 = .ok (.getfield 26, 3) := by decide +kernel
theorem d_X8_findGoing_15 : decode cX8_findGoing 15 = .ok (.iload 4, 2) := by decide +kernel
theorem d_X8_findGoing_17 : decode cX8_findGoing 17 = .ok (.iconst 0, 1) := by decide +kernel
theorem d_X8_findGoing_18 : decode cX8_findGoing 18 = .ok (.bastore, 1) := by decide +kernel
theorem d_X8_findGoing_19 : decode cX8_findGoing 19 = .ok (.iinc 4 1, 3) := by decide +kernel
theorem d_X8_findGoing_22 : decode cX8_findGoing 22 = .ok (.goto (-19), 3) := by decide +kernel
theorem d_X8_findGoing_25 : decode cX8_findGoing 25 = .ok (.aload_n 0, 1) := by decide +kernel
theorem d_X8_findGoing_26 : decode cX8_findGoing 26 = .ok (.getfield 26, 3) := by decide +kernel
theorem d_X8_findGoing_29 : decode cX8_findGoing 29 = .ok (.bipush 48, 2) := by decide +kernel
theorem d_X8_findGoing_31 : decode cX8_findGoing 31 = .ok (.iload_n 3, 1) := by decide +kernel
theorem d_X8_findGoing_32 : decode cX8_findGoing 32 = .ok (.imul, 1) := by decide +kernel
theorem d_X8_findGoing_33 : decode cX8_findGoing 33 = .ok (.iload_n 2, 1) := by decide +kernel
theorem d_X8_findGoing_34 : decode cX8_findGoing 34 = .ok (.iadd, 1) := by decide +kernel
theorem d_X8_findGoing_35 : decode cX8_findGoing 35 = .ok (.iconst 1, 1) := by decide +kernel
theorem d_X8_findGoing_36 : decode cX8_findGoing 36 = .ok (.bastore, 1) := by decide +kernel
theorem d_X8_findGoing_37 : decode cX8_findGoing 37 = .ok (.iload_n 3, 1) := by decide +kernel
theorem d_X8_findGoing_38 : decode cX8_findGoing 38 = .ok (.iconst 1, 1) := by decide +kernel
theorem d_X8_findGoing_39 : decode cX8_findGoing 39 = .ok (.isub, 1) := by decide +kernel
theorem d_X8_findGoing_40 : decode cX8_findGoing 40 = .ok (.istore 4, 2) := by decide +kernel
theorem d_X8_findGoing_42 : decode cX8_findGoing 42 = .ok (.iload 4, 2) := by decide +kernel
theorem d_X8_findGoing_44 : decode cX8_findGoing 44 = .ok (.ifCond .lt 141, 3) := by decide +kernel
theorem d_X8_findGoing_47 : decode cX8_findGoing 47 = .ok (.iconst 0, 1) := by decide +kernel
theorem d_X8_findGoing_48 : decode cX8_findGoing 48 = .ok (.istore 5, 2) := by decide +kernel
theorem d_X8_findGoing_50 : decode cX8_findGoing 50 = .ok (.iload 5, 2) := by decide +kernel
theorem d_X8_findGoing_52 : decode cX8_findGoing 52 = .ok (.aload_n 0, 1) := by decide +kernel
theorem d_X8_findGoing_53 : decode cX8_findGoing 53 = .ok (.invokevirtual 67, 3) := by decide +kernel
theorem d_X8_findGoing_56 : decode cX8_findGoing 56 = .ok (.if_icmp .ge 123, 3) := by decide +kernel
theorem d_X8_findGoing_59 : decode cX8_findGoing 59 = .ok (.iconst 0, 1) := by decide +kernel
theorem d_X8_findGoing_60 : decode cX8_findGoing 60 = .ok (.istore 6, 2) := by decide +kernel
theorem d_X8_findGoing_62 : decode cX8_findGoing 62 = .ok (.iconst 0, 1) := by decide +kernel
theorem d_X8_findGoing_63 : decode cX8_findGoing 63 = .ok (.istore 7, 2) := by decide +kernel
theorem d_X8_findGoing_65 : decode cX8_findGoing 65 = .ok (.iload 7, 2) := by decide +kernel
theorem d_X8_findGoing_67 : decode cX8_findGoing 67 = .ok (.iconst 5, 1) := by decide +kernel
theorem d_X8_findGoing_68 : decode cX8_findGoing 68 = .ok (.if_icmp .ge 68, 3) := by decide +kernel
theorem d_X8_findGoing_71 : decode cX8_findGoing 71 = .ok (.aload_n 0, 1) := by decide +kernel
theorem d_X8_findGoing_72 : decode cX8_findGoing 72 = .ok (.iload 5, 2) := by decide +kernel
theorem d_X8_findGoing_74 : decode cX8_findGoing 74 = .ok (.iload 7, 2) := by decide +kernel
theorem d_X8_findGoing_76 : decode cX8_findGoing 76 = .ok (.invokevirtual 124, 3) := by decide +kernel
theorem d_X8_findGoing_79 : decode cX8_findGoing 79 = .ok (.istore 8, 2) := by decide +kernel
theorem d_X8_findGoing_81 : decode cX8_findGoing 81 = .ok (.iload 6, 2) := by decide +kernel
theorem d_X8_findGoing_83 : decode cX8_findGoing 83 = .ok (.ifCond .ne 40, 3) := by decide +kernel
theorem d_X8_findGoing_86 : decode cX8_findGoing 86 = .ok (.iload 8, 2) := by decide +kernel
theorem d_X8_findGoing_88 : decode cX8_findGoing 88 = .ok (.ifCond .lt 39, 3) := by decide +kernel
theorem d_X8_findGoing_91 : decode cX8_findGoing 91 = .ok (.aload_n 0, 1) := by decide +kernel
theorem d_X8_findGoing_92 : decode cX8_findGoing 92 = .ok (.getfield 26, 3) := by decide +kernel
theorem d_X8_findGoing_95 : decode cX8_findGoing 95 = .ok (.bipush 48, 2) := by decide +kernel
theorem d_X8_findGoing_97 : decode cX8_findGoing 97 = .ok (.iload 4, 2) := by decide +kernel
theorem d_X8_findGoing_99 : decode cX8_findGoing 99 = .ok (.iconst 1, 1) := by decide +kernel
theorem d_X8_findGoing_100 : decode cX8_findGoing 100 = .ok (.iadd, 1) := by decide +kernel
theorem d_X8_findGoing_101 : decode cX8_findGoing 101 = .ok (.imul, 1) := by decide +kernel
theorem d_X8_findGoing_102 : decode cX8_findGoing 102 = .ok (.iload 8, 2) := by decide +kernel
theorem d_X8_findGoing_104 : decode cX8_findGoing 104 = .ok (.iadd, 1) := by decide +kernel
theorem d_X8_findGoing_105 : decode cX8_findGoing 105 = .ok (.baload, 1) := by decide +kernel
theorem d_X8_findGoing_106 : decode cX8_findGoing 106 = .ok (.ifCond .eq 21, 3) := by decide +kernel
theorem d_X8_findGoing_109 : decode cX8_findGoing 109 = .ok (.aload_n 0, 1) := by decide +kernel
theorem d_X8_findGoing_110 : decode cX8_findGoing 110 = .ok (.iload_n 1, 1) := by decide +kernel
theorem d_X8_findGoing_111 : decode cX8_findGoing 111 = .ok (.iload 5, 2) := by decide +kernel
theorem d_X8_findGoing_113 : decode cX8_findGoing 113 = .ok (.iload 8, 2) := by decide +kernel
theorem d_X8_findGoing_115 : decode cX8_findGoing 115 = .ok (.iload 4, 2) := by decide +kernel
theorem d_X8_findGoing_117 : decode cX8_findGoing 117 = .ok (.invokevirtual 127, 3) := by decide +kernel
theorem d_X8_findGoing_120 : decode cX8_findGoing 120 = .ok (.ifCond .eq 7, 3) := by decide +kernel
theorem d_X8_findGoing_123 : decode cX8_findGoing 123 = .ok (.iconst 1, 1) := by decide +kernel
theorem d_X8_findGoing_124 : decode cX8_findGoing 124 = .ok (.goto 4, 3) := by decide +kernel
theorem d_X8_findGoing_127 : decode cX8_findGoing 127 = .ok (.iconst 0, 1) := by decide +kernel
theorem d_X8_findGoing_128 : decode cX8_findGoing 128 = .ok (.istore 6, 2) := by decide +kernel
theorem d_X8_findGoing_130 : decode cX8_findGoing 130 = .ok (.iinc 7 1, 3) := by decide +kernel
theorem d_X8_findGoing_133 : decode cX8_findGoing 133 = .ok (.goto (-68), 3) := by decide +kernel
theorem d_X8_findGoing_136 : decode cX8_findGoing 136 = .ok (.aload_n 0, 1) := by decide +kernel
theorem d_X8_findGoing_137 : decode cX8_findGoing 137 = .ok (.getfield 26, 3) := by decide +kernel
theorem d_X8_findGoing_140 : decode cX8_findGoing 140 = .ok (.bipush 48, 2) := by decide +kernel
theorem d_X8_findGoing_142 : decode cX8_findGoing 142 = .ok (.iload 4, 2) := by decide +kernel
theorem d_X8_findGoing_144 : decode cX8_findGoing 144 = .ok (.imul, 1) := by decide +kernel
theorem d_X8_findGoing_145 : decode cX8_findGoing 145 = .ok (.iload 5, 2) := by decide +kernel
theorem d_X8_findGoing_147 : decode cX8_findGoing 147 = .ok (.iadd, 1) := by decide +kernel
theorem d_X8_findGoing_148 : decode cX8_findGoing 148 = .ok (.iload 6, 2) := by decide +kernel
theorem d_X8_findGoing_150 : decode cX8_findGoing 150 = .ok (.ifCond .eq 21, 3) := by decide +kernel
theorem d_X8_findGoing_153 : decode cX8_findGoing 153 = .ok (.iload 4, 2) := by decide +kernel
theorem d_X8_findGoing_155 : decode cX8_findGoing 155 = .ok (.iload_n 3, 1) := by decide +kernel
theorem d_X8_findGoing_156 : decode cX8_findGoing 156 = .ok (.iconst 1, 1) := by decide +kernel
theorem d_X8_findGoing_157 : decode cX8_findGoing 157 = .ok (.isub, 1) := by decide +kernel
theorem d_X8_findGoing_158 : decode cX8_findGoing 158 = .ok (.if_icmp .ne 9, 3) := by decide +kernel
theorem d_X8_findGoing_161 : decode cX8_findGoing 161 = .ok (.iload 5, 2) := by decide +kernel
theorem d_X8_findGoing_163 : decode cX8_findGoing 163 = .ok (.iload_n 2, 1) := by decide +kernel
theorem d_X8_findGoing_164 : decode cX8_findGoing 164 = .ok (.if_icmp .eq 7, 3) := by decide +kernel
theorem d_X8_findGoing_167 : decode cX8_findGoing 167 = .ok (.iconst 1, 1) := by decide +kernel
theorem d_X8_findGoing_168 : decode cX8_findGoing 168 = .ok (.goto 4, 3) := by decide +kernel
theorem d_X8_findGoing_171 : decode cX8_findGoing 171 = .ok (.iconst 0, 1) := by decide +kernel
theorem d_X8_findGoing_172 : decode cX8_findGoing 172 = .ok (.bastore, 1) := by decide +kernel
theorem d_X8_findGoing_173 : decode cX8_findGoing 173 = .ok (.iinc 5 1, 3) := by decide +kernel
theorem d_X8_findGoing_176 : decode cX8_findGoing 176 = .ok (.goto (-126), 3) := by decide +kernel
theorem d_X8_findGoing_179 : decode cX8_findGoing 179 = .ok (.iinc 4 (-1), 3) := by decide +kernel
theorem d_X8_findGoing_182 : decode cX8_findGoing 182 = .ok (.goto (-140), 3) := by decide +kernel
theorem d_X8_findGoing_185 : decode cX8_findGoing 185 = .ok (.return_, 1) := by decide +kernel
theorem d_X8_findPath_0 : decode cX8_findPath 0 = .ok (.aload_n 0, 1) := by decide +kernel
theorem d_X8_findPath_1 : decode cX8_findPath 1 = .ok (.iload_n 1, 1) := by decide +kernel
theorem d_X8_findPath_2 : decode cX8_findPath 2 = .ok (.iload_n 2, 1) := by decide +kernel
theorem d_X8_findPath_3 : decode cX8_findPath 3 = .ok (.iload_n 3, 1) := by decide +kernel
theorem d_X8_findPath_4 : decode cX8_findPath 4 = .ok (.invokevirtual 138, 3) := by decide +kernel
theorem d_X8_findPath_7 : decode cX8_findPath 7 = .ok (.aload_n 0, 1) := by decide +kernel
theorem d_X8_findPath_8 : decode cX8_findPath 8 = .ok (.iload_n 1, 1) := by decide +kernel
theorem d_X8_findPath_9 : decode cX8_findPath 9 = .ok (.iconst 0, 1) := by decide +kernel
theorem d_X8_findPath_10 : decode cX8_findPath 10 = .ok (.invokevirtual 79, 3) := by decide +kernel
theorem d_X8_findPath_13 : decode cX8_findPath 13 = .ok (.istore 4, 2) := by decide +kernel
theorem d_X8_findPath_15 : decode cX8_findPath 15 = .ok (.iconst 0, 1) := by decide +kernel
theorem d_X8_findPath_16 : decode cX8_findPath 16 = .ok (.istore 5, 2) := by decide +kernel
theorem d_X8_findPath_18 : decode cX8_findPath 18 = .ok (.iconst 0, 1) := by decide +kernel
theorem d_X8_findPath_19 : decode cX8_findPath 19 = .ok (.istore 6, 2) := by decide +kernel
theorem d_X8_findPath_21 : decode cX8_findPath 21 = .ok (.iload 6, 2) := by decide +kernel
theorem d_X8_findPath_23 : decode cX8_findPath 23 = .ok (.iload_n 3, 1) := by decide +kernel
theorem d_X8_findPath_24 : decode cX8_findPath 24 = .ok (.if_icmp .ge 105, 3) := by decide +kernel
theorem d_X8_findPath_27 : decode cX8_findPath 27 = .ok (.iconst 0, 1) := by decide +kernel
theorem d_X8_findPath_28 : decode cX8_findPath 28 = .ok (.istore 7, 2) := by decide +kernel
theorem d_X8_findPath_30 : decode cX8_findPath 30 = .ok (.aload_n 0, 1) := by decide +kernel
theorem d_X8_findPath_31 : decode cX8_findPath 31 = .ok (.iload 4, 2) := by decide +kernel
theorem d_X8_findPath_33 : decode cX8_findPath 33 = .ok (.iload 7, 2) := by decide +kernel
theorem d_X8_findPath_35 : decode cX8_findPath 35 = .ok (.invokevirtual 124, 3) := by decide +kernel
theorem d_X8_findPath_38 : decode cX8_findPath 38 = .ok (.istore 8, 2) := by decide +kernel
theorem d_X8_findPath_40 : decode cX8_findPath 40 = .ok (.iload 8, 2) := by decide +kernel
theorem d_X8_findPath_42 : decode cX8_findPath 42 = .ok (.ifCond .lt 35, 3) := by decide +kernel
theorem d_X8_findPath_45 : decode cX8_findPath 45 = .ok (.aload_n 0, 1) := by decide +kernel
theorem d_X8_findPath_46 : decode cX8_findPath 46 = .ok (.getfield 26, 3) := by decide +kernel
theorem d_X8_findPath_49 : decode cX8_findPath 49 = .ok (.bipush 48, 2) := by decide +kernel
theorem d_X8_findPath_51 : decode cX8_findPath 51 = .ok (.iload 6, 2) := by decide +kernel
theorem d_X8_findPath_53 : decode cX8_findPath 53 = .ok (.iconst 1, 1) := by decide +kernel
theorem d_X8_findPath_54 : decode cX8_findPath 54 = .ok (.iadd, 1) := by decide +kernel
theorem d_X8_findPath_55 : decode cX8_findPath 55 = .ok (.imul, 1) := by decide +kernel
theorem d_X8_findPath_56 : decode cX8_findPath 56 = .ok (.iload 8, 2) := by decide +kernel
theorem d_X8_findPath_58 : decode cX8_findPath 58 = .ok (.iadd, 1) := by decide +kernel
theorem d_X8_findPath_59 : decode cX8_findPath 59 = .ok (.baload, 1) := by decide +kernel
theorem d_X8_findPath_60 : decode cX8_findPath 60 = .ok (.ifCond .eq 17, 3) := by decide +kernel
theorem d_X8_findPath_63 : decode cX8_findPath 63 = .ok (.aload_n 0, 1) := by decide +kernel
theorem d_X8_findPath_64 : decode cX8_findPath 64 = .ok (.iload_n 1, 1) := by decide +kernel
theorem d_X8_findPath_65 : decode cX8_findPath 65 = .ok (.iload 4, 2) := by decide +kernel
theorem d_X8_findPath_67 : decode cX8_findPath 67 = .ok (.iload 8, 2) := by decide +kernel
theorem d_X8_findPath_69 : decode cX8_findPath 69 = .ok (.iload 6, 2) := by decide +kernel
theorem d_X8_findPath_71 : decode cX8_findPath 71 = .ok (.invokevirtual 127, 3) := by decide +kernel
theorem d_X8_findPath_74 : decode cX8_findPath 74 = .ok (.ifCond .ne 19, 3) := by decide +kernel
theorem d_X8_findPath_77 : decode cX8_findPath 77 = .ok (.iinc 7 1, 3) := by decide +kernel
theorem d_X8_findPath_80 : decode cX8_findPath 80 = .ok (.aload_n 0, 1) := by decide +kernel
theorem d_X8_findPath_81 : decode cX8_findPath 81 = .ok (.iload 4, 2) := by decide +kernel
theorem d_X8_findPath_83 : decode cX8_findPath 83 = .ok (.iload 7, 2) := by decide +kernel
theorem d_X8_findPath_85 : decode cX8_findPath 85 = .ok (.invokevirtual 124, 3) := by decide +kernel
theorem d_X8_findPath_88 : decode cX8_findPath 88 = .ok (.istore 8, 2) := by decide +kernel
theorem d_X8_findPath_90 : decode cX8_findPath 90 = .ok (.goto (-50), 3) := by decide +kernel
theorem d_X8_findPath_93 : decode cX8_findPath 93 = .ok (.iload 5, 2) := by decide +kernel
theorem d_X8_findPath_95 : decode cX8_findPath 95 = .ok (.iload 8, 2) := by decide +kernel
theorem d_X8_findPath_97 : decode cX8_findPath 97 = .ok (.iload 4, 2) := by decide +kernel
theorem d_X8_findPath_99 : decode cX8_findPath 99 = .ok (.if_icmp .ne 7, 3) := by decide +kernel
theorem d_X8_findPath_102 : decode cX8_findPath 102 = .ok (.iconst 0, 1) := by decide +kernel
theorem d_X8_findPath_103 : decode cX8_findPath 103 = .ok (.goto 4, 3) := by decide +kernel
theorem d_X8_findPath_106 : decode cX8_findPath 106 = .ok (.iconst 1, 1) := by decide +kernel
theorem d_X8_findPath_107 : decode cX8_findPath 107 = .ok (.iadd, 1) := by decide +kernel
theorem d_X8_findPath_108 : decode cX8_findPath 108 = .ok (.istore 5, 2) := by decide +kernel
theorem d_X8_findPath_110 : decode cX8_findPath 110 = .ok (.aload_n 0, 1) := by decide +kernel
theorem d_X8_findPath_111 : decode cX8_findPath 111 = .ok (.getfield 29, 3) := by decide +kernel
theorem d_X8_findPath_114 : decode cX8_findPath 114 = .ok (.iload 6, 2) := by decide +kernel
theorem d_X8_findPath_116 : decode cX8_findPath 116 = .ok (.iload 8, 2) := by decide +kernel
theorem d_X8_findPath_118 : decode cX8_findPath 118 = .ok (.iastore, 1) := by decide +kernel
theorem d_X8_findPath_119 : decode cX8_findPath 119 = .ok (.iload 8, 2) := by decide +kernel
theorem d_X8_findPath_121 : decode cX8_findPath 121 = .ok (.istore 4, 2) := by decide +kernel
theorem d_X8_findPath_123 : decode cX8_findPath 123 = .ok (.iinc 6 1, 3) := by decide +kernel
theorem d_X8_findPath_126 : decode cX8_findPath 126 = .ok (.goto (-105), 3) := by decide +kernel
theorem d_X8_findPath_129 : decode cX8_findPath 129 = .ok (.iload 5, 2) := by decide +kernel
theorem d_X8_findPath_131 : decode cX8_findPath 131 = .ok (.ireturn, 1) := by decide +kernel
theorem d_X8_plan_0 : decode cX8_plan 0 = .ok (.aload_n 0, 1) := by decide +kernel
theorem d_X8_plan_1 : decode cX8_plan 1 = .ok (.iconst 0, 1) := by decide +kernel
theorem d_X8_plan_2 : decode cX8_plan 2 = .ok (.putfield 49, 3) := by decide +kernel
theorem d_X8_plan_5 : decode cX8_plan 5 = .ok (.aload_n 0, 1) := by decide +kernel
theorem d_X8_plan_6 : decode cX8_plan 6 = .ok (.iload_n 1, 1) := by decide +kernel
theorem d_X8_plan_7 : decode cX8_plan 7 = .ok (.invokevirtual 103, 3) := by decide +kernel
theorem d_X8_plan_10 : decode cX8_plan 10 = .ok (.ifCond .eq 11, 3) := by decide +kernel
theorem d_X8_plan_13 : decode cX8_plan 13 = .ok (.aload_n 0, 1) := by decide +kernel
theorem d_X8_plan_14 : decode cX8_plan 14 = .ok (.iload_n 2, 1) := by decide +kernel
theorem d_X8_plan_15 : decode cX8_plan 15 = .ok (.invokevirtual 86, 3) := by decide +kernel
theorem d_X8_plan_18 : decode cX8_plan 18 = .ok (.ifCond .ne 10, 3) := by decide +kernel
theorem d_X8_plan_21 : decode cX8_plan 21 = .ok (.aload_n 0, 1) := by decide +kernel
theorem d_X8_plan_22 : decode cX8_plan 22 = .ok (.iconst 1, 1) := by decide +kernel
theorem d_X8_plan_23 : decode cX8_plan 23 = .ok (.iconst 0, 1) := by decide +kernel
theorem d_X8_plan_24 : decode cX8_plan 24 = .ok (.invokevirtual 90, 3) := by decide +kernel
theorem d_X8_plan_27 : decode cX8_plan 27 = .ok (.ireturn, 1) := by decide +kernel
theorem d_X8_plan_28 : decode cX8_plan 28 = .ok (.aload_n 0, 1) := by decide +kernel
theorem d_X8_plan_29 : decode cX8_plan 29 = .ok (.iload_n 1, 1) := by decide +kernel
theorem d_X8_plan_30 : decode cX8_plan 30 = .ok (.iconst 3, 1) := by decide +kernel
theorem d_X8_plan_31 : decode cX8_plan 31 = .ok (.invokevirtual 79, 3) := by decide +kernel
theorem d_X8_plan_34 : decode cX8_plan 34 = .ok (.ifCond .le 16, 3) := by decide +kernel
theorem d_X8_plan_37 : decode cX8_plan 37 = .ok (.aload_n 0, 1) := by decide +kernel
theorem d_X8_plan_38 : decode cX8_plan 38 = .ok (.bipush 6, 2) := by decide +kernel
theorem d_X8_plan_40 : decode cX8_plan 40 = .ok (.aload_n 0, 1) := by decide +kernel
theorem d_X8_plan_41 : decode cX8_plan 41 = .ok (.iload_n 1, 1) := by decide +kernel
theorem d_X8_plan_42 : decode cX8_plan 42 = .ok (.iconst 3, 1) := by decide +kernel
theorem d_X8_plan_43 : decode cX8_plan 43 = .ok (.invokevirtual 79, 3) := by decide +kernel
theorem d_X8_plan_46 : decode cX8_plan 46 = .ok (.invokevirtual 90, 3) := by decide +kernel
theorem d_X8_plan_49 : decode cX8_plan 49 = .ok (.ireturn, 1) := by decide +kernel
theorem d_X8_plan_50 : decode cX8_plan 50 = .ok (.aload_n 0, 1) := by decide +kernel
theorem d_X8_plan_51 : decode cX8_plan 51 = .ok (.iload_n 1, 1) := by decide +kernel
theorem d_X8_plan_52 : decode cX8_plan 52 = .ok (.iconst 0, 1) := by decide +kernel
theorem d_X8_plan_53 : decode cX8_plan 53 = .ok (.invokevirtual 79, 3) := by decide +kernel
theorem d_X8_plan_56 : decode cX8_plan 56 = .ok (.iload_n 2, 1) := by decide +kernel
theorem d_X8_plan_57 : decode cX8_plan 57 = .ok (.if_icmp .ne 11, 3) := by decide +kernel
theorem d_X8_plan_60 : decode cX8_plan 60 = .ok (.aload_n 0, 1) := by decide +kernel
theorem d_X8_plan_61 : decode cX8_plan 61 = .ok (.bipush 9, 2) := by decide +kernel
theorem d_X8_plan_63 : decode cX8_plan 63 = .ok (.iconst 0, 1) := by decide +kernel
theorem d_X8_plan_64 : decode cX8_plan 64 = .ok (.invokevirtual 90, 3) := by decide +kernel
theorem d_X8_plan_67 : decode cX8_plan 67 = .ok (.ireturn, 1) := by decide +kernel
theorem d_X8_plan_68 : decode cX8_plan 68 = .ok (.aload_n 0, 1) := by decide +kernel
theorem d_X8_plan_69 : decode cX8_plan 69 = .ok (.iload_n 2, 1) := by decide +kernel
theorem d_X8_plan_70 : decode cX8_plan 70 = .ok (.invokevirtual 93, 3) := by decide +kernel
theorem d_X8_plan_73 : decode cX8_plan 73 = .ok (.ifCond .ne 10, 3) := by decide +kernel
theorem d_X8_plan_76 : decode cX8_plan 76 = .ok (.aload_n 0, 1) := by decide +kernel
theorem d_X8_plan_77 : decode cX8_plan 77 = .ok (.iconst 4, 1) := by decide +kernel
theorem d_X8_plan_78 : decode cX8_plan 78 = .ok (.iload_n 2, 1) := by decide +kernel
theorem d_X8_plan_79 : decode cX8_plan 79 = .ok (.invokevirtual 90, 3) := by decide +kernel
theorem d_X8_plan_82 : decode cX8_plan 82 = .ok (.ireturn, 1) := by decide +kernel
theorem d_X8_plan_83 : decode cX8_plan 83 = .ok (.aload_n 0, 1) := by decide +kernel
theorem d_X8_plan_84 : decode cX8_plan 84 = .ok (.iload_n 1, 1) := by decide +kernel
theorem d_X8_plan_85 : decode cX8_plan 85 = .ok (.iload_n 2, 1) := by decide +kernel
theorem d_X8_plan_86 : decode cX8_plan 86 = .ok (.invokevirtual 142, 3) := by decide +kernel
theorem d_X8_plan_89 : decode cX8_plan 89 = .ok (.istore_n 3, 1) := by decide +kernel
theorem d_X8_plan_90 : decode cX8_plan 90 = .ok (.iload_n 3, 1) := by decide +kernel
theorem d_X8_plan_91 : decode cX8_plan 91 = .ok (.ifCond .ge 11, 3) := by decide +kernel
theorem d_X8_plan_94 : decode cX8_plan 94 = .ok (.aload_n 0, 1) := by decide +kernel
theorem d_X8_plan_95 : decode cX8_plan 95 = .ok (.bipush 10, 2) := by decide +kernel
theorem d_X8_plan_97 : decode cX8_plan 97 = .ok (.iconst 0, 1) := by decide +kernel
theorem d_X8_plan_98 : decode cX8_plan 98 = .ok (.invokevirtual 90, 3) := by decide +kernel
theorem d_X8_plan_101 : decode cX8_plan 101 = .ok (.ireturn, 1) := by decide +kernel
theorem d_X8_plan_102 : decode cX8_plan 102 = .ok (.aload_n 0, 1) := by decide +kernel
theorem d_X8_plan_103 : decode cX8_plan 103 = .ok (.iload_n 1, 1) := by decide +kernel
theorem d_X8_plan_104 : decode cX8_plan 104 = .ok (.invokevirtual 145, 3) := by decide +kernel
theorem d_X8_plan_107 : decode cX8_plan 107 = .ok (.ifCond .eq 13, 3) := by decide +kernel
theorem d_X8_plan_110 : decode cX8_plan 110 = .ok (.aload_n 0, 1) := by decide +kernel
theorem d_X8_plan_111 : decode cX8_plan 111 = .ok (.getfield 9, 3) := by decide +kernel
theorem d_X8_plan_114 : decode cX8_plan 114 = .ok (.bipush 6, 2) := by decide +kernel
theorem d_X8_plan_116 : decode cX8_plan 116 = .ok (.iaload, 1) := by decide +kernel
theorem d_X8_plan_117 : decode cX8_plan 117 = .ok (.goto 4, 3) := by decide +kernel
theorem d_X8_plan_120 : decode cX8_plan 120 = .ok (.iconst 1, 1) := by decide +kernel
theorem d_X8_plan_121 : decode cX8_plan 121 = .ok (.istore 4, 2) := by decide +kernel
theorem d_X8_plan_123 : decode cX8_plan 123 = .ok (.iload 4, 2) := by decide +kernel
theorem d_X8_plan_125 : decode cX8_plan 125 = .ok (.aload_n 0, 1) := by decide +kernel
theorem d_X8_plan_126 : decode cX8_plan 126 = .ok (.iload_n 1, 1) := by decide +kernel
theorem d_X8_plan_127 : decode cX8_plan 127 = .ok (.iload_n 2, 1) := by decide +kernel
theorem d_X8_plan_128 : decode cX8_plan 128 = .ok (.iload_n 3, 1) := by decide +kernel
theorem d_X8_plan_129 : decode cX8_plan 129 = .ok (.invokevirtual 148, 3) := by decide +kernel
theorem d_X8_plan_132 : decode cX8_plan 132 = .ok (.imul, 1) := by decide +kernel
theorem d_X8_plan_133 : decode cX8_plan 133 = .ok (.istore 5, 2) := by decide +kernel
theorem d_X8_plan_135 : decode cX8_plan 135 = .ok (.aload_n 0, 1) := by decide +kernel
theorem d_X8_plan_136 : decode cX8_plan 136 = .ok (.iload_n 1, 1) := by decide +kernel
theorem d_X8_plan_137 : decode cX8_plan 137 = .ok (.iconst 1, 1) := by decide +kernel
theorem d_X8_plan_138 : decode cX8_plan 138 = .ok (.invokevirtual 79, 3) := by decide +kernel
theorem d_X8_plan_141 : decode cX8_plan 141 = .ok (.iload 5, 2) := by decide +kernel
theorem d_X8_plan_143 : decode cX8_plan 143 = .ok (.if_icmp .ge 12, 3) := by decide +kernel
theorem d_X8_plan_146 : decode cX8_plan 146 = .ok (.aload_n 0, 1) := by decide +kernel
theorem d_X8_plan_147 : decode cX8_plan 147 = .ok (.bipush 11, 2) := by decide +kernel
theorem d_X8_plan_149 : decode cX8_plan 149 = .ok (.iload 5, 2) := by decide +kernel
theorem d_X8_plan_151 : decode cX8_plan 151 = .ok (.invokevirtual 90, 3) := by decide +kernel
theorem d_X8_plan_154 : decode cX8_plan 154 = .ok (.ireturn, 1) := by decide +kernel
theorem d_X8_plan_155 : decode cX8_plan 155 = .ok (.aload_n 0, 1) := by decide +kernel
theorem d_X8_plan_156 : decode cX8_plan 156 = .ok (.invokevirtual 100, 3) := by decide +kernel
theorem d_X8_plan_159 : decode cX8_plan 159 = .ok (.aload_n 0, 1) := by decide +kernel
theorem d_X8_plan_160 : decode cX8_plan 160 = .ok (.getfield 9, 3) := by decide +kernel
theorem d_X8_plan_163 : decode cX8_plan 163 = .ok (.iload_n 1, 1) := by decide +kernel
theorem d_X8_plan_164 : decode cX8_plan 164 = .ok (.invokestatic 75, 3) := by decide +kernel
theorem d_X8_plan_167 : decode cX8_plan 167 = .ok (.iconst 3, 1) := by decide +kernel
theorem d_X8_plan_168 : decode cX8_plan 168 = .ok (.iadd, 1) := by decide +kernel
theorem d_X8_plan_169 : decode cX8_plan 169 = .ok (.iload_n 3, 1) := by decide +kernel
theorem d_X8_plan_170 : decode cX8_plan 170 = .ok (.iastore, 1) := by decide +kernel
theorem d_X8_plan_171 : decode cX8_plan 171 = .ok (.aload_n 0, 1) := by decide +kernel
theorem d_X8_plan_172 : decode cX8_plan 172 = .ok (.getfield 9, 3) := by decide +kernel
theorem d_X8_plan_175 : decode cX8_plan 175 = .ok (.iload_n 1, 1) := by decide +kernel
theorem d_X8_plan_176 : decode cX8_plan 176 = .ok (.invokestatic 75, 3) := by decide +kernel
theorem d_X8_plan_179 : decode cX8_plan 179 = .ok (.iconst 4, 1) := by decide +kernel
theorem d_X8_plan_180 : decode cX8_plan 180 = .ok (.iadd, 1) := by decide +kernel
theorem d_X8_plan_181 : decode cX8_plan 181 = .ok (.iload 4, 2) := by decide +kernel
theorem d_X8_plan_183 : decode cX8_plan 183 = .ok (.iastore, 1) := by decide +kernel
theorem d_X8_plan_184 : decode cX8_plan 184 = .ok (.aload_n 0, 1) := by decide +kernel
theorem d_X8_plan_185 : decode cX8_plan 185 = .ok (.getfield 29, 3) := by decide +kernel
theorem d_X8_plan_188 : decode cX8_plan 188 = .ok (.iconst 0, 1) := by decide +kernel
theorem d_X8_plan_189 : decode cX8_plan 189 = .ok (.aload_n 0, 1) := by decide +kernel
theorem d_X8_plan_190 : decode cX8_plan 190 = .ok (.getfield 9, 3) := by decide +kernel
theorem d_X8_plan_193 : decode cX8_plan 193 = .ok (.iload_n 1, 1) := by decide +kernel
theorem d_X8_plan_194 : decode cX8_plan 194 = .ok (.invokestatic 75, 3) := by decide +kernel
theorem d_X8_plan_197 : decode cX8_plan 197 = .ok (.bipush 6, 2) := by decide +kernel
theorem d_X8_plan_199 : decode cX8_plan 199 = .ok (.iadd, 1) := by decide +kernel
theorem d_X8_plan_200 : decode cX8_plan 200 = .ok (.iload_n 3, 1) := by decide +kernel
theorem d_X8_plan_201 : decode cX8_plan 201 = .ok (.invokestatic 55, 3) := by decide +kernel
theorem d_X8_plan_204 : decode cX8_plan 204 = .ok (.iload_n 3, 1) := by decide +kernel
theorem d_X8_plan_205 : decode cX8_plan 205 = .ok (.ireturn, 1) := by decide +kernel
theorem d_X8_cancel_0 : decode cX8_cancel 0 = .ok (.aload_n 0, 1) := by decide +kernel
theorem d_X8_cancel_1 : decode cX8_cancel 1 = .ok (.iconst 0, 1) := by decide +kernel
theorem d_X8_cancel_2 : decode cX8_cancel 2 = .ok (.putfield 49, 3) := by decide +kernel
theorem d_X8_cancel_5 : decode cX8_cancel 5 = .ok (.aload_n 0, 1) := by decide +kernel
theorem d_X8_cancel_6 : decode cX8_cancel 6 = .ok (.iload_n 1, 1) := by decide +kernel
theorem d_X8_cancel_7 : decode cX8_cancel 7 = .ok (.invokevirtual 103, 3) := by decide +kernel
theorem d_X8_cancel_10 : decode cX8_cancel 10 = .ok (.ifCond .ne 10, 3) := by decide +kernel
theorem d_X8_cancel_13 : decode cX8_cancel 13 = .ok (.aload_n 0, 1) := by decide +kernel
theorem d_X8_cancel_14 : decode cX8_cancel 14 = .ok (.iconst 1, 1) := by decide +kernel
theorem d_X8_cancel_15 : decode cX8_cancel 15 = .ok (.iconst 0, 1) := by decide +kernel
theorem d_X8_cancel_16 : decode cX8_cancel 16 = .ok (.invokevirtual 90, 3) := by decide +kernel
theorem d_X8_cancel_19 : decode cX8_cancel 19 = .ok (.ireturn, 1) := by decide +kernel
theorem d_X8_cancel_20 : decode cX8_cancel 20 = .ok (.aload_n 0, 1) := by decide +kernel
theorem d_X8_cancel_21 : decode cX8_cancel 21 = .ok (.iload_n 1, 1) := by decide +kernel
theorem d_X8_cancel_22 : decode cX8_cancel 22 = .ok (.iconst 3, 1) := by decide +kernel
theorem d_X8_cancel_23 : decode cX8_cancel 23 = .ok (.invokevirtual 79, 3) := by decide +kernel
theorem d_X8_cancel_26 : decode cX8_cancel 26 = .ok (.istore_n 2, 1) := by decide +kernel
theorem d_X8_cancel_27 : decode cX8_cancel 27 = .ok (.iload_n 2, 1) := by decide +kernel
theorem d_X8_cancel_28 : decode cX8_cancel 28 = .ok (.ifCond .ne 11, 3) := by decide +kernel
theorem d_X8_cancel_31 : decode cX8_cancel 31 = .ok (.aload_n 0, 1) := by decide +kernel
theorem d_X8_cancel_32 : decode cX8_cancel 32 = .ok (.bipush 14, 2) := by decide +kernel
theorem d_X8_cancel_34 : decode cX8_cancel 34 = .ok (.iconst 0, 1) := by decide +kernel
theorem d_X8_cancel_35 : decode cX8_cancel 35 = .ok (.invokevirtual 90, 3) := by decide +kernel
theorem d_X8_cancel_38 : decode cX8_cancel 38 = .ok (.ireturn, 1) := by decide +kernel
theorem d_X8_cancel_39 : decode cX8_cancel 39 = .ok (.aload_n 0, 1) := by decide +kernel
theorem d_X8_cancel_40 : decode cX8_cancel 40 = .ok (.aload_n 0, 1) := by decide +kernel
theorem d_X8_cancel_41 : decode cX8_cancel 41 = .ok (.iload_n 1, 1) := by decide +kernel
theorem d_X8_cancel_42 : decode cX8_cancel 42 = .ok (.iconst 0, 1) := by decide +kernel
theorem d_X8_cancel_43 : decode cX8_cancel 43 = .ok (.invokevirtual 79, 3) := by decide +kernel
theorem d_X8_cancel_46 : decode cX8_cancel 46 = .ok (.iconst 1, 1) := by decide +kernel
theorem d_X8_cancel_47 : decode cX8_cancel 47 = .ok (.iload_n 1, 1) := by decide +kernel
theorem d_X8_cancel_48 : decode cX8_cancel 48 = .ok (.invokevirtual 96, 3) := by decide +kernel
theorem d_X8_cancel_51 : decode cX8_cancel 51 = .ok (.istore_n 3, 1) := by decide +kernel
theorem d_X8_cancel_52 : decode cX8_cancel 52 = .ok (.iload_n 3, 1) := by decide +kernel
theorem d_X8_cancel_53 : decode cX8_cancel 53 = .ok (.ifCond .lt 10, 3) := by decide +kernel
theorem d_X8_cancel_56 : decode cX8_cancel 56 = .ok (.aload_n 0, 1) := by decide +kernel
theorem d_X8_cancel_57 : decode cX8_cancel 57 = .ok (.iconst 5, 1) := by decide +kernel
theorem d_X8_cancel_58 : decode cX8_cancel 58 = .ok (.iload_n 3, 1) := by decide +kernel
theorem d_X8_cancel_59 : decode cX8_cancel 59 = .ok (.invokevirtual 90, 3) := by decide +kernel
theorem d_X8_cancel_62 : decode cX8_cancel 62 = .ok (.ireturn, 1) := by decide +kernel
theorem d_X8_cancel_63 : decode cX8_cancel 63 = .ok (.aload_n 0, 1) := by decide +kernel
theorem d_X8_cancel_64 : decode cX8_cancel 64 = .ok (.invokevirtual 100, 3) := by decide +kernel
theorem d_X8_cancel_67 : decode cX8_cancel 67 = .ok (.aload_n 0, 1) := by decide +kernel
theorem d_X8_cancel_68 : decode cX8_cancel 68 = .ok (.getfield 9, 3) := by decide +kernel
theorem d_X8_cancel_71 : decode cX8_cancel 71 = .ok (.iload_n 1, 1) := by decide +kernel
theorem d_X8_cancel_72 : decode cX8_cancel 72 = .ok (.invokestatic 75, 3) := by decide +kernel
theorem d_X8_cancel_75 : decode cX8_cancel 75 = .ok (.iconst 3, 1) := by decide +kernel
theorem d_X8_cancel_76 : decode cX8_cancel 76 = .ok (.iadd, 1) := by decide +kernel
theorem d_X8_cancel_77 : decode cX8_cancel 77 = .ok (.iconst 0, 1) := by decide +kernel
theorem d_X8_cancel_78 : decode cX8_cancel 78 = .ok (.iastore, 1) := by decide +kernel
theorem d_X8_cancel_79 : decode cX8_cancel 79 = .ok (.iload_n 2, 1) := by decide +kernel
theorem d_X8_cancel_80 : decode cX8_cancel 80 = .ok (.ireturn, 1) := by decide +kernel
theorem d_X8_ends_0 : decode cX8_ends 0 = .ok (.aload_n 0, 1) := by decide +kernel
theorem d_X8_ends_1 : decode cX8_ends 1 = .ok (.iload_n 1, 1) := by decide +kernel
theorem d_X8_ends_2 : decode cX8_ends 2 = .ok (.iconst 2, 1) := by decide +kernel
theorem d_X8_ends_3 : decode cX8_ends 3 = .ok (.invokevirtual 79, 3) := by decide +kernel
theorem d_X8_ends_6 : decode cX8_ends 6 = .ok (.istore_n 2, 1) := by decide +kernel
theorem d_X8_ends_7 : decode cX8_ends 7 = .ok (.iload_n 2, 1) := by decide +kernel
theorem d_X8_ends_8 : decode cX8_ends 8 = .ok (.ifCond .ge 5, 3) := by decide +kernel
theorem d_X8_ends_11 : decode cX8_ends 11 = .ok (.iconst 0, 1) := by decide +kernel
theorem d_X8_ends_12 : decode cX8_ends 12 = .ok (.ireturn, 1) := by decide +kernel
theorem d_X8_ends_13 : decode cX8_ends 13 = .ok (.aload_n 0, 1) := by decide +kernel
theorem d_X8_ends_14 : decode cX8_ends 14 = .ok (.iload_n 1, 1) := by decide +kernel
theorem d_X8_ends_15 : decode cX8_ends 15 = .ok (.iconst 0, 1) := by decide +kernel
theorem d_X8_ends_16 : decode cX8_ends 16 = .ok (.invokevirtual 79, 3) := by decide +kernel
theorem d_X8_ends_19 : decode cX8_ends 19 = .ok (.istore_n 3, 1) := by decide +kernel
theorem d_X8_ends_20 : decode cX8_ends 20 = .ok (.aload_n 0, 1) := by decide +kernel
theorem d_X8_ends_21 : decode cX8_ends 21 = .ok (.iload_n 2, 1) := by decide +kernel
theorem d_X8_ends_22 : decode cX8_ends 22 = .ok (.iconst 2, 1) := by decide +kernel
theorem d_X8_ends_23 : decode cX8_ends 23 = .ok (.invokevirtual 109, 3) := by decide +kernel
theorem d_X8_ends_26 : decode cX8_ends 26 = .ok (.istore 4, 2) := by decide +kernel
theorem d_X8_ends_28 : decode cX8_ends 28 = .ok (.iload 4, 2) := by decide +kernel
theorem d_X8_ends_30 : decode cX8_ends 30 = .ok (.aload_n 0, 1) := by decide +kernel
theorem d_X8_ends_31 : decode cX8_ends 31 = .ok (.iload_n 2, 1) := by decide +kernel
theorem d_X8_ends_32 : decode cX8_ends 32 = .ok (.iconst 1, 1) := by decide +kernel
theorem d_X8_ends_33 : decode cX8_ends 33 = .ok (.invokevirtual 109, 3) := by decide +kernel
theorem d_X8_ends_36 : decode cX8_ends 36 = .ok (.if_icmp .ge 37, 3) := by decide +kernel
theorem d_X8_ends_39 : decode cX8_ends 39 = .ok (.aload_n 0, 1) := by decide +kernel
theorem d_X8_ends_40 : decode cX8_ends 40 = .ok (.getfield 9, 3) := by decide +kernel
theorem d_X8_ends_43 : decode cX8_ends 43 = .ok (.iload_n 2, 1) := by decide +kernel
theorem d_X8_ends_44 : decode cX8_ends 44 = .ok (.invokestatic 106, 3) := by decide +kernel
theorem d_X8_ends_47 : decode cX8_ends 47 = .ok (.iconst 2, 1) := by decide +kernel
theorem d_X8_ends_48 : decode cX8_ends 48 = .ok (.iadd, 1) := by decide +kernel
theorem d_X8_ends_49 : decode cX8_ends 49 = .ok (.dup2, 1) := by decide +kernel
theorem d_X8_ends_50 : decode cX8_ends 50 = .ok (.iaload, 1) := by decide +kernel
theorem d_X8_ends_51 : decode cX8_ends 51 = .ok (.aload_n 0, 1) := by decide +kernel
theorem d_X8_ends_52 : decode cX8_ends 52 = .ok (.iload_n 2, 1) := by decide +kernel
theorem d_X8_ends_53 : decode cX8_ends 53 = .ok (.iconst 5, 1) := by decide +kernel
theorem d_X8_ends_54 : decode cX8_ends 54 = .ok (.iload 4, 2) := by decide +kernel
theorem d_X8_ends_56 : decode cX8_ends 56 = .ok (.iadd, 1) := by decide +kernel
theorem d_X8_ends_57 : decode cX8_ends 57 = .ok (.invokevirtual 109, 3) := by decide +kernel
theorem d_X8_ends_60 : decode cX8_ends 60 = .ok (.iload_n 3, 1) := by decide +kernel
theorem d_X8_ends_61 : decode cX8_ends 61 = .ok (.if_icmp .ne 7, 3) := by decide +kernel
theorem d_X8_ends_64 : decode cX8_ends 64 = .ok (.iconst 1, 1) := by decide +kernel
theorem d_X8_ends_65 : decode cX8_ends 65 = .ok (.goto 4, 3) := by decide +kernel
theorem d_X8_ends_68 : decode cX8_ends 68 = .ok (.iconst 0, 1) := by decide +kernel
theorem d_X8_ends_69 : decode cX8_ends 69 = .ok (.iadd, 1) := by decide +kernel
theorem d_X8_ends_70 : decode cX8_ends 70 = .ok (.iastore, 1) := by decide +kernel
theorem d_X8_ends_71 : decode cX8_ends 71 = .ok (.iconst 0, 1) := by decide +kernel
theorem d_X8_ends_72 : decode cX8_ends 72 = .ok (.ireturn, 1) := by decide +kernel
theorem d_X8_ends_73 : decode cX8_ends 73 = .ok (.aload_n 0, 1) := by decide +kernel
theorem d_X8_ends_74 : decode cX8_ends 74 = .ok (.getfield 9, 3) := by decide +kernel
theorem d_X8_ends_77 : decode cX8_ends 77 = .ok (.bipush 8, 2) := by decide +kernel
theorem d_X8_ends_79 : decode cX8_ends 79 = .ok (.iload_n 3, 1) := by decide +kernel
theorem d_X8_ends_80 : decode cX8_ends 80 = .ok (.iadd, 1) := by decide +kernel
theorem d_X8_ends_81 : decode cX8_ends 81 = .ok (.iaload, 1) := by decide +kernel
theorem d_X8_ends_82 : decode cX8_ends 82 = .ok (.iconst 3, 1) := by decide +kernel
theorem d_X8_ends_83 : decode cX8_ends 83 = .ok (.if_icmp .eq 5, 3) := by decide +kernel
theorem d_X8_ends_86 : decode cX8_ends 86 = .ok (.iconst 0, 1) := by decide +kernel
theorem d_X8_ends_87 : decode cX8_ends 87 = .ok (.ireturn, 1) := by decide +kernel
theorem d_X8_ends_88 : decode cX8_ends 88 = .ok (.aload_n 0, 1) := by decide +kernel
theorem d_X8_ends_89 : decode cX8_ends 89 = .ok (.getfield 9, 3) := by decide +kernel
theorem d_X8_ends_92 : decode cX8_ends 92 = .ok (.iload_n 2, 1) := by decide +kernel
theorem d_X8_ends_93 : decode cX8_ends 93 = .ok (.invokestatic 106, 3) := by decide +kernel
theorem d_X8_ends_96 : decode cX8_ends 96 = .ok (.iconst 4, 1) := by decide +kernel
theorem d_X8_ends_97 : decode cX8_ends 97 = .ok (.iadd, 1) := by decide +kernel
theorem d_X8_ends_98 : decode cX8_ends 98 = .ok (.aload_n 0, 1) := by decide +kernel
theorem d_X8_ends_99 : decode cX8_ends 99 = .ok (.getfield 9, 3) := by decide +kernel
theorem d_X8_ends_102 : decode cX8_ends 102 = .ok (.iconst 2, 1) := by decide +kernel
theorem d_X8_ends_103 : decode cX8_ends 103 = .ok (.iaload, 1) := by decide +kernel
theorem d_X8_ends_104 : decode cX8_ends 104 = .ok (.iastore, 1) := by decide +kernel
theorem d_X8_ends_105 : decode cX8_ends 105 = .ok (.aload_n 0, 1) := by decide +kernel
theorem d_X8_ends_106 : decode cX8_ends 106 = .ok (.getfield 9, 3) := by decide +kernel
theorem d_X8_ends_109 : decode cX8_ends 109 = .ok (.iload_n 2, 1) := by decide +kernel
theorem d_X8_ends_110 : decode cX8_ends 110 = .ok (.invokestatic 106, 3) := by decide +kernel
theorem d_X8_ends_113 : decode cX8_ends 113 = .ok (.iconst 3, 1) := by decide +kernel
theorem d_X8_ends_114 : decode cX8_ends 114 = .ok (.iadd, 1) := by decide +kernel
theorem d_X8_ends_115 : decode cX8_ends 115 = .ok (.iconst (-1), 1) := by decide +kernel
theorem d_X8_ends_116 : decode cX8_ends 116 = .ok (.iastore, 1) := by decide +kernel
theorem d_X8_ends_117 : decode cX8_ends 117 = .ok (.aload_n 0, 1) := by decide +kernel
theorem d_X8_ends_118 : decode cX8_ends 118 = .ok (.getfield 9, 3) := by decide +kernel
theorem d_X8_ends_121 : decode cX8_ends 121 = .ok (.iload_n 1, 1) := by decide +kernel
theorem d_X8_ends_122 : decode cX8_ends 122 = .ok (.invokestatic 75, 3) := by decide +kernel
theorem d_X8_ends_125 : decode cX8_ends 125 = .ok (.iconst 2, 1) := by decide +kernel
theorem d_X8_ends_126 : decode cX8_ends 126 = .ok (.iadd, 1) := by decide +kernel
theorem d_X8_ends_127 : decode cX8_ends 127 = .ok (.iconst (-1), 1) := by decide +kernel
theorem d_X8_ends_128 : decode cX8_ends 128 = .ok (.iastore, 1) := by decide +kernel
theorem d_X8_ends_129 : decode cX8_ends 129 = .ok (.iconst 1, 1) := by decide +kernel
theorem d_X8_ends_130 : decode cX8_ends 130 = .ok (.ireturn, 1) := by decide +kernel
theorem d_X8_tick_0 : decode cX8_tick 0 = .ok (.aload_n 0, 1) := by decide +kernel
theorem d_X8_tick_1 : decode cX8_tick 1 = .ok (.getfield 9, 3) := by decide +kernel
theorem d_X8_tick_4 : decode cX8_tick 4 = .ok (.iconst 2, 1) := by decide +kernel
theorem d_X8_tick_5 : decode cX8_tick 5 = .ok (.dup2, 1) := by decide +kernel
theorem d_X8_tick_6 : decode cX8_tick 6 = .ok (.iaload, 1) := by decide +kernel
theorem d_X8_tick_7 : decode cX8_tick 7 = .ok (.iconst 1, 1) := by decide +kernel
theorem d_X8_tick_8 : decode cX8_tick 8 = .ok (.iadd, 1) := by decide +kernel
theorem d_X8_tick_9 : decode cX8_tick 9 = .ok (.iastore, 1) := by decide +kernel
theorem d_X8_tick_10 : decode cX8_tick 10 = .ok (.iconst 0, 1) := by decide +kernel
theorem d_X8_tick_11 : decode cX8_tick 11 = .ok (.istore_n 1, 1) := by decide +kernel
theorem d_X8_tick_12 : decode cX8_tick 12 = .ok (.iconst 0, 1) := by decide +kernel
theorem d_X8_tick_13 : decode cX8_tick 13 = .ok (.istore_n 2, 1) := by decide +kernel
theorem d_X8_tick_14 : decode cX8_tick 14 = .ok (.iload_n 2, 1) := by decide +kernel
theorem d_X8_tick_15 : decode cX8_tick 15 = .ok (.aload_n 0, 1) := by decide +kernel
theorem d_X8_tick_16 : decode cX8_tick 16 = .ok (.getfield 9, 3) := by decide +kernel
theorem d_X8_tick_19 : decode cX8_tick 19 = .ok (.iconst 3, 1) := by decide +kernel
theorem d_X8_tick_20 : decode cX8_tick 20 = .ok (.iaload, 1) := by decide +kernel
theorem d_X8_tick_21 : decode cX8_tick 21 = .ok (.if_icmp .ge 254, 3) := by decide +kernel
theorem d_X8_tick_24 : decode cX8_tick 24 = .ok (.iload_n 2, 1) := by decide +kernel
theorem d_X8_tick_25 : decode cX8_tick 25 = .ok (.invokestatic 75, 3) := by decide +kernel
theorem d_X8_tick_28 : decode cX8_tick 28 = .ok (.istore_n 3, 1) := by decide +kernel
theorem d_X8_tick_29 : decode cX8_tick 29 = .ok (.aload_n 0, 1) := by decide +kernel
theorem d_X8_tick_30 : decode cX8_tick 30 = .ok (.getfield 9, 3) := by decide +kernel
theorem d_X8_tick_33 : decode cX8_tick 33 = .ok (.iload_n 3, 1) := by decide +kernel
theorem d_X8_tick_34 : decode cX8_tick 34 = .ok (.iconst 3, 1) := by decide +kernel
theorem d_X8_tick_35 : decode cX8_tick 35 = .ok (.iadd, 1) := by decide +kernel
theorem d_X8_tick_36 : decode cX8_tick 36 = .ok (.iaload, 1) := by decide +kernel
theorem d_X8_tick_37 : decode cX8_tick 37 = .ok (.ifCond .ne 77, 3) := by decide +kernel
theorem d_X8_tick_40 : decode cX8_tick 40 = .ok (.aload_n 0, 1) := by decide +kernel
theorem d_X8_tick_41 : decode cX8_tick 41 = .ok (.getfield 9, 3) := by decide +kernel
theorem d_X8_tick_44 : decode cX8_tick 44 = .ok (.bipush 8, 2) := by decide +kernel
theorem d_X8_tick_46 : decode cX8_tick 46 = .ok (.aload_n 0, 1) := by decide +kernel
theorem d_X8_tick_47 : decode cX8_tick 47 = .ok (.getfield 9, 3) := by decide +kernel
theorem d_X8_tick_50 : decode cX8_tick 50 = .ok (.iload_n 3, 1) := by decide +kernel
theorem d_X8_tick_51 : decode cX8_tick 51 = .ok (.iconst 0, 1) := by decide +kernel
theorem d_X8_tick_52 : decode cX8_tick 52 = .ok (.iadd, 1) := by decide +kernel
theorem d_X8_tick_53 : decode cX8_tick 53 = .ok (.iaload, 1) := by decide +kernel
theorem d_X8_tick_54 : decode cX8_tick 54 = .ok (.iadd, 1) := by decide +kernel
theorem d_X8_tick_55 : decode cX8_tick 55 = .ok (.iaload, 1) := by decide +kernel
theorem d_X8_tick_56 : decode cX8_tick 56 = .ok (.iconst 2, 1) := by decide +kernel
theorem d_X8_tick_57 : decode cX8_tick 57 = .ok (.if_icmp .ne 7, 3) := by decide +kernel
theorem d_X8_tick_60 : decode cX8_tick 60 = .ok (.iconst 1, 1) := by decide +kernel
theorem d_X8_tick_61 : decode cX8_tick 61 = .ok (.goto 4, 3) := by decide +kernel
theorem d_X8_tick_64 : decode cX8_tick 64 = .ok (.iconst 0, 1) := by decide +kernel
theorem d_X8_tick_65 : decode cX8_tick 65 = .ok (.istore 4, 2) := by decide +kernel
theorem d_X8_tick_67 : decode cX8_tick 67 = .ok (.aload_n 0, 1) := by decide +kernel
theorem d_X8_tick_68 : decode cX8_tick 68 = .ok (.getfield 9, 3) := by decide +kernel
theorem d_X8_tick_71 : decode cX8_tick 71 = .ok (.iload_n 3, 1) := by decide +kernel
theorem d_X8_tick_72 : decode cX8_tick 72 = .ok (.iconst 1, 1) := by decide +kernel
theorem d_X8_tick_73 : decode cX8_tick 73 = .ok (.iadd, 1) := by decide +kernel
theorem d_X8_tick_74 : decode cX8_tick 74 = .ok (.iload 4, 2) := by decide +kernel
theorem d_X8_tick_76 : decode cX8_tick 76 = .ok (.ifCond .eq 26, 3) := by decide +kernel
theorem d_X8_tick_79 : decode cX8_tick 79 = .ok (.bipush 99, 2) := by decide +kernel
theorem d_X8_tick_81 : decode cX8_tick 81 = .ok (.aload_n 0, 1) := by decide +kernel
theorem d_X8_tick_82 : decode cX8_tick 82 = .ok (.getfield 9, 3) := by decide +kernel
theorem d_X8_tick_85 : decode cX8_tick 85 = .ok (.iload_n 3, 1) := by decide +kernel
theorem d_X8_tick_86 : decode cX8_tick 86 = .ok (.iconst 1, 1) := by decide +kernel
theorem d_X8_tick_87 : decode cX8_tick 87 = .ok (.iadd, 1) := by decide +kernel
theorem d_X8_tick_88 : decode cX8_tick 88 = .ok (.iaload, 1) := by decide +kernel
theorem d_X8_tick_89 : decode cX8_tick 89 = .ok (.aload_n 0, 1) := by decide +kernel
theorem d_X8_tick_90 : decode cX8_tick 90 = .ok (.getfield 9, 3) := by decide +kernel
theorem d_X8_tick_93 : decode cX8_tick 93 = .ok (.iconst 5, 1) := by decide +kernel
theorem d_X8_tick_94 : decode cX8_tick 94 = .ok (.iaload, 1) := by decide +kernel
theorem d_X8_tick_95 : decode cX8_tick 95 = .ok (.iadd, 1) := by decide +kernel
theorem d_X8_tick_96 : decode cX8_tick 96 = .ok (.invokestatic 151, 3) := by decide +kernel
theorem d_X8_tick_99 : decode cX8_tick 99 = .ok (.goto 11, 3) := by decide +kernel
theorem d_X8_tick_102 : decode cX8_tick 102 = .ok (.aload_n 0, 1) := by decide +kernel
theorem d_X8_tick_103 : decode cX8_tick 103 = .ok (.getfield 9, 3) := by decide +kernel
theorem d_X8_tick_106 : decode cX8_tick 106 = .ok (.iload_n 3, 1) := by decide +kernel
theorem d_X8_tick_107 : decode cX8_tick 107 = .ok (.iconst 1, 1) := by decide +kernel
theorem d_X8_tick_108 : decode cX8_tick 108 = .ok (.iadd, 1) := by decide +kernel
theorem d_X8_tick_109 : decode cX8_tick 109 = .ok (.iaload, 1) := by decide +kernel
theorem d_X8_tick_110 : decode cX8_tick 110 = .ok (.iastore, 1) := by decide +kernel
theorem d_X8_tick_111 : decode cX8_tick 111 = .ok (.goto 158, 3) := by decide +kernel
theorem d_X8_tick_114 : decode cX8_tick 114 = .ok (.aload_n 0, 1) := by decide +kernel
theorem d_X8_tick_115 : decode cX8_tick 115 = .ok (.getfield 9, 3) := by decide +kernel
theorem d_X8_tick_118 : decode cX8_tick 118 = .ok (.iload_n 3, 1) := by decide +kernel
theorem d_X8_tick_119 : decode cX8_tick 119 = .ok (.bipush 6, 2) := by decide +kernel
theorem d_X8_tick_121 : decode cX8_tick 121 = .ok (.iadd, 1) := by decide +kernel
theorem d_X8_tick_122 : decode cX8_tick 122 = .ok (.iaload, 1) := by decide +kernel
theorem d_X8_tick_123 : decode cX8_tick 123 = .ok (.aload_n 0, 1) := by decide +kernel
theorem d_X8_tick_124 : decode cX8_tick 124 = .ok (.getfield 9, 3) := by decide +kernel
theorem d_X8_tick_127 : decode cX8_tick 127 = .ok (.iload_n 3, 1) := by decide +kernel
theorem d_X8_tick_128 : decode cX8_tick 128 = .ok (.iconst 0, 1) := by decide +kernel
theorem d_X8_tick_129 : decode cX8_tick 129 = .ok (.iadd, 1) := by decide +kernel
theorem d_X8_tick_130 : decode cX8_tick 130 = .ok (.iaload, 1) := by decide +kernel
theorem d_X8_tick_131 : decode cX8_tick 131 = .ok (.if_icmp .eq 7, 3) := by decide +kernel
theorem d_X8_tick_134 : decode cX8_tick 134 = .ok (.iconst 1, 1) := by decide +kernel
theorem d_X8_tick_135 : decode cX8_tick 135 = .ok (.goto 4, 3) := by decide +kernel
theorem d_X8_tick_138 : decode cX8_tick 138 = .ok (.iconst 0, 1) := by decide +kernel
theorem d_X8_tick_139 : decode cX8_tick 139 = .ok (.istore 4, 2) := by decide +kernel
theorem d_X8_tick_141 : decode cX8_tick 141 = .ok (.aload_n 0, 1) := by decide +kernel
theorem d_X8_tick_142 : decode cX8_tick 142 = .ok (.getfield 9, 3) := by decide +kernel
theorem d_X8_tick_145 : decode cX8_tick 145 = .ok (.iload_n 3, 1) := by decide +kernel
theorem d_X8_tick_146 : decode cX8_tick 146 = .ok (.iconst 1, 1) := by decide +kernel
theorem d_X8_tick_147 : decode cX8_tick 147 = .ok (.iadd, 1) := by decide +kernel
theorem d_X8_tick_148 : decode cX8_tick 148 = .ok (.dup2, 1) := by decide +kernel
theorem d_X8_tick_149 : decode cX8_tick 149 = .ok (.iaload, 1) := by decide +kernel
theorem d_X8_tick_150 : decode cX8_tick 150 = .ok (.iload 4, 2) := by decide +kernel
theorem d_X8_tick_152 : decode cX8_tick 152 = .ok (.ifCond .eq 14, 3) := by decide +kernel
theorem d_X8_tick_155 : decode cX8_tick 155 = .ok (.aload_n 0, 1) := by decide +kernel
theorem d_X8_tick_156 : decode cX8_tick 156 = .ok (.getfield 9, 3) := by decide +kernel
theorem d_X8_tick_159 : decode cX8_tick 159 = .ok (.iload_n 3, 1) := by decide +kernel
theorem d_X8_tick_160 : decode cX8_tick 160 = .ok (.iconst 4, 1) := by decide +kernel
theorem d_X8_tick_161 : decode cX8_tick 161 = .ok (.iadd, 1) := by decide +kernel
theorem d_X8_tick_162 : decode cX8_tick 162 = .ok (.iaload, 1) := by decide +kernel
theorem d_X8_tick_163 : decode cX8_tick 163 = .ok (.goto 4, 3) := by decide +kernel
theorem d_X8_tick_166 : decode cX8_tick 166 = .ok (.iconst 0, 1) := by decide +kernel
theorem d_X8_tick_167 : decode cX8_tick 167 = .ok (.isub, 1) := by decide +kernel
theorem d_X8_tick_168 : decode cX8_tick 168 = .ok (.iastore, 1) := by decide +kernel
theorem d_X8_tick_169 : decode cX8_tick 169 = .ok (.aload_n 0, 1) := by decide +kernel
theorem d_X8_tick_170 : decode cX8_tick 170 = .ok (.getfield 9, 3) := by decide +kernel
theorem d_X8_tick_173 : decode cX8_tick 173 = .ok (.iload_n 3, 1) := by decide +kernel
theorem d_X8_tick_174 : decode cX8_tick 174 = .ok (.iconst 5, 1) := by decide +kernel
theorem d_X8_tick_175 : decode cX8_tick 175 = .ok (.iadd, 1) := by decide +kernel
theorem d_X8_tick_176 : decode cX8_tick 176 = .ok (.dup2, 1) := by decide +kernel
theorem d_X8_tick_177 : decode cX8_tick 177 = .ok (.iaload, 1) := by decide +kernel
theorem d_X8_tick_178 : decode cX8_tick 178 = .ok (.iload 4, 2) := by decide +kernel
theorem d_X8_tick_180 : decode cX8_tick 180 = .ok (.ifCond .eq 7, 3) := by decide +kernel
theorem d_X8_tick_183 : decode cX8_tick 183 = .ok (.iconst 1, 1) := by decide +kernel
theorem d_X8_tick_184 : decode cX8_tick 184 = .ok (.goto 4, 3) := by decide +kernel
theorem d_X8_tick_187 : decode cX8_tick 187 = .ok (.iconst 0, 1) := by decide +kernel
theorem d_X8_tick_188 : decode cX8_tick 188 = .ok (.iadd, 1) := by decide +kernel
theorem d_X8_tick_189 : decode cX8_tick 189 = .ok (.iastore, 1) := by decide +kernel
theorem d_X8_tick_190 : decode cX8_tick 190 = .ok (.aload_n 0, 1) := by decide +kernel
theorem d_X8_tick_191 : decode cX8_tick 191 = .ok (.getfield 9, 3) := by decide +kernel
theorem d_X8_tick_194 : decode cX8_tick 194 = .ok (.iload_n 3, 1) := by decide +kernel
theorem d_X8_tick_195 : decode cX8_tick 195 = .ok (.iconst 0, 1) := by decide +kernel
theorem d_X8_tick_196 : decode cX8_tick 196 = .ok (.iadd, 1) := by decide +kernel
theorem d_X8_tick_197 : decode cX8_tick 197 = .ok (.aload_n 0, 1) := by decide +kernel
theorem d_X8_tick_198 : decode cX8_tick 198 = .ok (.getfield 9, 3) := by decide +kernel
theorem d_X8_tick_201 : decode cX8_tick 201 = .ok (.iload_n 3, 1) := by decide +kernel
theorem d_X8_tick_202 : decode cX8_tick 202 = .ok (.bipush 6, 2) := by decide +kernel
theorem d_X8_tick_204 : decode cX8_tick 204 = .ok (.iadd, 1) := by decide +kernel
theorem d_X8_tick_205 : decode cX8_tick 205 = .ok (.iaload, 1) := by decide +kernel
theorem d_X8_tick_206 : decode cX8_tick 206 = .ok (.iastore, 1) := by decide +kernel
theorem d_X8_tick_207 : decode cX8_tick 207 = .ok (.aload_n 0, 1) := by decide +kernel
theorem d_X8_tick_208 : decode cX8_tick 208 = .ok (.getfield 9, 3) := by decide +kernel
theorem d_X8_tick_211 : decode cX8_tick 211 = .ok (.iload_n 3, 1) := by decide +kernel
theorem d_X8_tick_212 : decode cX8_tick 212 = .ok (.iconst 3, 1) := by decide +kernel
theorem d_X8_tick_213 : decode cX8_tick 213 = .ok (.iadd, 1) := by decide +kernel
theorem d_X8_tick_214 : decode cX8_tick 214 = .ok (.dup2, 1) := by decide +kernel
theorem d_X8_tick_215 : decode cX8_tick 215 = .ok (.iaload, 1) := by decide +kernel
theorem d_X8_tick_216 : decode cX8_tick 216 = .ok (.iconst 1, 1) := by decide +kernel
theorem d_X8_tick_217 : decode cX8_tick 217 = .ok (.isub, 1) := by decide +kernel
theorem d_X8_tick_218 : decode cX8_tick 218 = .ok (.iastore, 1) := by decide +kernel
theorem d_X8_tick_219 : decode cX8_tick 219 = .ok (.aload_n 0, 1) := by decide +kernel
theorem d_X8_tick_220 : decode cX8_tick 220 = .ok (.getfield 9, 3) := by decide +kernel
theorem d_X8_tick_223 : decode cX8_tick 223 = .ok (.iload_n 3, 1) := by decide +kernel
theorem d_X8_tick_224 : decode cX8_tick 224 = .ok (.bipush 6, 2) := by decide +kernel
theorem d_X8_tick_226 : decode cX8_tick 226 = .ok (.iadd, 1) := by decide +kernel
theorem d_X8_tick_227 : decode cX8_tick 227 = .ok (.iconst 1, 1) := by decide +kernel
theorem d_X8_tick_228 : decode cX8_tick 228 = .ok (.iadd, 1) := by decide +kernel
theorem d_X8_tick_229 : decode cX8_tick 229 = .ok (.aload_n 0, 1) := by decide +kernel
theorem d_X8_tick_230 : decode cX8_tick 230 = .ok (.getfield 9, 3) := by decide +kernel
theorem d_X8_tick_233 : decode cX8_tick 233 = .ok (.iload_n 3, 1) := by decide +kernel
theorem d_X8_tick_234 : decode cX8_tick 234 = .ok (.bipush 6, 2) := by decide +kernel
theorem d_X8_tick_236 : decode cX8_tick 236 = .ok (.iadd, 1) := by decide +kernel
theorem d_X8_tick_237 : decode cX8_tick 237 = .ok (.aload_n 0, 1) := by decide +kernel
theorem d_X8_tick_238 : decode cX8_tick 238 = .ok (.getfield 9, 3) := by decide +kernel
theorem d_X8_tick_241 : decode cX8_tick 241 = .ok (.iload_n 3, 1) := by decide +kernel
theorem d_X8_tick_242 : decode cX8_tick 242 = .ok (.iconst 3, 1) := by decide +kernel
theorem d_X8_tick_243 : decode cX8_tick 243 = .ok (.iadd, 1) := by decide +kernel
theorem d_X8_tick_244 : decode cX8_tick 244 = .ok (.iaload, 1) := by decide +kernel
theorem d_X8_tick_245 : decode cX8_tick 245 = .ok (.invokestatic 55, 3) := by decide +kernel
theorem d_X8_tick_248 : decode cX8_tick 248 = .ok (.iload_n 1, 1) := by decide +kernel
theorem d_X8_tick_249 : decode cX8_tick 249 = .ok (.aload_n 0, 1) := by decide +kernel
theorem d_X8_tick_250 : decode cX8_tick 250 = .ok (.getfield 9, 3) := by decide +kernel
theorem d_X8_tick_253 : decode cX8_tick 253 = .ok (.iload_n 3, 1) := by decide +kernel
theorem d_X8_tick_254 : decode cX8_tick 254 = .ok (.iconst 3, 1) := by decide +kernel
theorem d_X8_tick_255 : decode cX8_tick 255 = .ok (.iadd, 1) := by decide +kernel
theorem d_X8_tick_256 : decode cX8_tick 256 = .ok (.iaload, 1) := by decide +kernel
theorem d_X8_tick_257 : decode cX8_tick 257 = .ok (.ifCond .ne 9, 3) := by decide +kernel
theorem d_X8_tick_260 : decode cX8_tick 260 = .ok (.iconst 1, 1) := by decide +kernel
theorem d_X8_tick_261 : decode cX8_tick 261 = .ok (.iload_n 2, 1) := by decide +kernel
theorem d_X8_tick_262 : decode cX8_tick 262 = .ok (.ishl, 1) := by decide +kernel
theorem d_X8_tick_263 : decode cX8_tick 263 = .ok (.goto 4, 3) := by decide +kernel
theorem d_X8_tick_266 : decode cX8_tick 266 = .ok (.iconst 0, 1) := by decide +kernel
theorem d_X8_tick_267 : decode cX8_tick 267 = .ok (.ior, 1) := by decide +kernel
theorem d_X8_tick_268 : decode cX8_tick 268 = .ok (.istore_n 1, 1) := by decide +kernel
theorem d_X8_tick_269 : decode cX8_tick 269 = .ok (.iinc 2 1, 3) := by decide +kernel
theorem d_X8_tick_272 : decode cX8_tick 272 = .ok (.goto (-258), 3) := by decide +kernel
theorem d_X8_tick_275 : decode cX8_tick 275 = .ok (.iconst 0, 1) := by decide +kernel
theorem d_X8_tick_276 : decode cX8_tick 276 = .ok (.istore_n 2, 1) := by decide +kernel
theorem d_X8_tick_277 : decode cX8_tick 277 = .ok (.iconst 0, 1) := by decide +kernel
theorem d_X8_tick_278 : decode cX8_tick 278 = .ok (.istore_n 3, 1) := by decide +kernel
theorem d_X8_tick_279 : decode cX8_tick 279 = .ok (.iload_n 3, 1) := by decide +kernel
theorem d_X8_tick_280 : decode cX8_tick 280 = .ok (.aload_n 0, 1) := by decide +kernel
theorem d_X8_tick_281 : decode cX8_tick 281 = .ok (.getfield 9, 3) := by decide +kernel
theorem d_X8_tick_284 : decode cX8_tick 284 = .ok (.iconst 3, 1) := by decide +kernel
theorem d_X8_tick_285 : decode cX8_tick 285 = .ok (.iaload, 1) := by decide +kernel
theorem d_X8_tick_286 : decode cX8_tick 286 = .ok (.if_icmp .ge 30, 3) := by decide +kernel
theorem d_X8_tick_289 : decode cX8_tick 289 = .ok (.iload_n 2, 1) := by decide +kernel
theorem d_X8_tick_290 : decode cX8_tick 290 = .ok (.iload_n 1, 1) := by decide +kernel
theorem d_X8_tick_291 : decode cX8_tick 291 = .ok (.iload_n 3, 1) := by decide +kernel
theorem d_X8_tick_292 : decode cX8_tick 292 = .ok (.ishr, 1) := by decide +kernel
theorem d_X8_tick_293 : decode cX8_tick 293 = .ok (.iconst 1, 1) := by decide +kernel
theorem d_X8_tick_294 : decode cX8_tick 294 = .ok (.iand, 1) := by decide +kernel
theorem d_X8_tick_295 : decode cX8_tick 295 = .ok (.iconst 1, 1) := by decide +kernel
theorem d_X8_tick_296 : decode cX8_tick 296 = .ok (.if_icmp .ne 11, 3) := by decide +kernel
theorem d_X8_tick_299 : decode cX8_tick 299 = .ok (.aload_n 0, 1) := by decide +kernel
theorem d_X8_tick_300 : decode cX8_tick 300 = .ok (.iload_n 3, 1) := by decide +kernel
theorem d_X8_tick_301 : decode cX8_tick 301 = .ok (.invokevirtual 156, 3) := by decide +kernel
theorem d_X8_tick_304 : decode cX8_tick 304 = .ok (.goto 4, 3) := by decide +kernel
theorem d_X8_tick_307 : decode cX8_tick 307 = .ok (.iconst 0, 1) := by decide +kernel
theorem d_X8_tick_308 : decode cX8_tick 308 = .ok (.iadd, 1) := by decide +kernel
theorem d_X8_tick_309 : decode cX8_tick 309 = .ok (.istore_n 2, 1) := by decide +kernel
theorem d_X8_tick_310 : decode cX8_tick 310 = .ok (.iinc 3 1, 3) := by decide +kernel
theorem d_X8_tick_313 : decode cX8_tick 313 = .ok (.goto (-34), 3) := by decide +kernel
theorem d_X8_tick_316 : decode cX8_tick 316 = .ok (.iload_n 2, 1) := by decide +kernel
theorem d_X8_tick_317 : decode cX8_tick 317 = .ok (.ireturn, 1) := by decide +kernel
theorem d_X8_pass_0 : decode cX8_pass 0 = .ok (.aload_n 0, 1) := by decide +kernel
theorem d_X8_pass_1 : decode cX8_pass 1 = .ok (.iconst 0, 1) := by decide +kernel
theorem d_X8_pass_2 : decode cX8_pass 2 = .ok (.putfield 49, 3) := by decide +kernel
theorem d_X8_pass_5 : decode cX8_pass 5 = .ok (.iload_n 1, 1) := by decide +kernel
theorem d_X8_pass_6 : decode cX8_pass 6 = .ok (.iconst 1, 1) := by decide +kernel
theorem d_X8_pass_7 : decode cX8_pass 7 = .ok (.bipush 99, 2) := by decide +kernel
theorem d_X8_pass_9 : decode cX8_pass 9 = .ok (.invokestatic 71, 3) := by decide +kernel
theorem d_X8_pass_12 : decode cX8_pass 12 = .ok (.ifCond .ne 10, 3) := by decide +kernel
theorem d_X8_pass_15 : decode cX8_pass 15 = .ok (.aload_n 0, 1) := by decide +kernel
theorem d_X8_pass_16 : decode cX8_pass 16 = .ok (.iconst 2, 1) := by decide +kernel
theorem d_X8_pass_17 : decode cX8_pass 17 = .ok (.iconst 0, 1) := by decide +kernel
theorem d_X8_pass_18 : decode cX8_pass 18 = .ok (.invokevirtual 90, 3) := by decide +kernel
theorem d_X8_pass_21 : decode cX8_pass 21 = .ok (.ireturn, 1) := by decide +kernel
theorem d_X8_pass_22 : decode cX8_pass 22 = .ok (.aload_n 0, 1) := by decide +kernel
theorem d_X8_pass_23 : decode cX8_pass 23 = .ok (.invokevirtual 100, 3) := by decide +kernel
theorem d_X8_pass_26 : decode cX8_pass 26 = .ok (.iconst 0, 1) := by decide +kernel
theorem d_X8_pass_27 : decode cX8_pass 27 = .ok (.istore_n 2, 1) := by decide +kernel
theorem d_X8_pass_28 : decode cX8_pass 28 = .ok (.iconst 0, 1) := by decide +kernel
theorem d_X8_pass_29 : decode cX8_pass 29 = .ok (.istore_n 3, 1) := by decide +kernel
theorem d_X8_pass_30 : decode cX8_pass 30 = .ok (.iload_n 3, 1) := by decide +kernel
theorem d_X8_pass_31 : decode cX8_pass 31 = .ok (.iload_n 1, 1) := by decide +kernel
theorem d_X8_pass_32 : decode cX8_pass 32 = .ok (.if_icmp .ge 16, 3) := by decide +kernel
theorem d_X8_pass_35 : decode cX8_pass 35 = .ok (.iload_n 2, 1) := by decide +kernel
theorem d_X8_pass_36 : decode cX8_pass 36 = .ok (.aload_n 0, 1) := by decide +kernel
theorem d_X8_pass_37 : decode cX8_pass 37 = .ok (.invokevirtual 159, 3) := by decide +kernel
theorem d_X8_pass_40 : decode cX8_pass 40 = .ok (.iadd, 1) := by decide +kernel
theorem d_X8_pass_41 : decode cX8_pass 41 = .ok (.istore_n 2, 1) := by decide +kernel
theorem d_X8_pass_42 : decode cX8_pass 42 = .ok (.iinc 3 1, 3) := by decide +kernel
theorem d_X8_pass_45 : decode cX8_pass 45 = .ok (.goto (-15), 3) := by decide +kernel
theorem d_X8_pass_48 : decode cX8_pass 48 = .ok (.iload_n 2, 1) := by decide +kernel
theorem d_X8_pass_49 : decode cX8_pass 49 = .ok (.ireturn, 1) := by decide +kernel
theorem d_X8_findFar_0 : decode cX8_findFar 0 = .ok (.iconst 0, 1) := by decide +kernel
theorem d_X8_findFar_1 : decode cX8_findFar 1 = .ok (.istore_n 2, 1) := by decide +kernel
theorem d_X8_findFar_2 : decode cX8_findFar 2 = .ok (.iload_n 2, 1) := by decide +kernel
theorem d_X8_findFar_3 : decode cX8_findFar 3 = .ok (.bipush 48, 2) := by decide +kernel
theorem d_X8_findFar_5 : decode cX8_findFar 5 = .ok (.if_icmp .ge 16, 3) := by decide +kernel
theorem d_X8_findFar_8 : decode cX8_findFar 8 = .ok (.aload_n 0, 1) := by decide +kernel
theorem d_X8_findFar_9 : decode cX8_findFar 9 = .ok (.getfield 32, 3) := by decide +kernel
theorem d_X8_findFar_12 : decode cX8_findFar 12 = .ok (.iload_n 2, 1) := by decide +kernel
theorem d_X8_findFar_13 : decode cX8_findFar 13 = .ok (.iconst (-1), 1) := by decide +kernel
theorem d_X8_findFar_14 : decode cX8_findFar 14 = .ok (.iastore, 1) := by decide +kernel
theorem d_X8_findFar_15 : decode cX8_findFar 15 = .ok (.iinc 2 1, 3) := by decide +kernel
theorem d_X8_findFar_18 : decode cX8_findFar 18 = .ok (.goto (-16), 3) := by decide +kernel
theorem d_X8_findFar_21 : decode cX8_findFar 21 = .ok (.aload_n 0, 1) := by decide +kernel
theorem d_X8_findFar_22 : decode cX8_findFar 22 = .ok (.getfield 32, 3) := by decide +kernel
theorem d_X8_findFar_25 : decode cX8_findFar 25 = .ok (.iload_n 1, 1) := by decide +kernel
theorem d_X8_findFar_26 : decode cX8_findFar 26 = .ok (.iconst 0, 1) := by decide +kernel
theorem d_X8_findFar_27 : decode cX8_findFar 27 = .ok (.iastore, 1) := by decide +kernel
theorem d_X8_findFar_28 : decode cX8_findFar 28 = .ok (.aload_n 0, 1) := by decide +kernel
theorem d_X8_findFar_29 : decode cX8_findFar 29 = .ok (.getfield 35, 3) := by decide +kernel
theorem d_X8_findFar_32 : decode cX8_findFar 32 = .ok (.iconst 0, 1) := by decide +kernel
theorem d_X8_findFar_33 : decode cX8_findFar 33 = .ok (.iload_n 1, 1) := by decide +kernel
theorem d_X8_findFar_34 : decode cX8_findFar 34 = .ok (.iastore, 1) := by decide +kernel
theorem d_X8_findFar_35 : decode cX8_findFar 35 = .ok (.iconst 1, 1) := by decide +kernel
theorem d_X8_findFar_36 : decode cX8_findFar 36 = .ok (.istore_n 2, 1) := by decide +kernel
theorem d_X8_findFar_37 : decode cX8_findFar 37 = .ok (.iconst 0, 1) := by decide +kernel
theorem d_X8_findFar_38 : decode cX8_findFar 38 = .ok (.istore_n 3, 1) := by decide +kernel
theorem d_X8_findFar_39 : decode cX8_findFar 39 = .ok (.iload_n 3, 1) := by decide +kernel
theorem d_X8_findFar_40 : decode cX8_findFar 40 = .ok (.iload_n 2, 1) := by decide +kernel
theorem d_X8_findFar_41 : decode cX8_findFar 41 = .ok (.if_icmp .ge 93, 3) := by decide +kernel
theorem d_X8_findFar_44 : decode cX8_findFar 44 = .ok (.iconst 0, 1) := by decide +kernel
theorem d_X8_findFar_45 : decode cX8_findFar 45 = .ok (.istore 4, 2) := by decide +kernel
theorem d_X8_findFar_47 : decode cX8_findFar 47 = .ok (.iload 4, 2) := by decide +kernel
theorem d_X8_findFar_49 : decode cX8_findFar 49 = .ok (.iconst 4, 1) := by decide +kernel
theorem d_X8_findFar_50 : decode cX8_findFar 50 = .ok (.if_icmp .ge 78, 3) := by decide +kernel
theorem d_X8_findFar_53 : decode cX8_findFar 53 = .ok (.aload_n 0, 1) := by decide +kernel
theorem d_X8_findFar_54 : decode cX8_findFar 54 = .ok (.aload_n 0, 1) := by decide +kernel
theorem d_X8_findFar_55 : decode cX8_findFar 55 = .ok (.getfield 35, 3) := by decide +kernel
theorem d_X8_findFar_58 : decode cX8_findFar 58 = .ok (.iload_n 3, 1) := by decide +kernel
theorem d_X8_findFar_59 : decode cX8_findFar 59 = .ok (.iaload, 1) := by decide +kernel
theorem d_X8_findFar_60 : decode cX8_findFar 60 = .ok (.iload 4, 2) := by decide +kernel
theorem d_X8_findFar_62 : decode cX8_findFar 62 = .ok (.invokevirtual 124, 3) := by decide +kernel
theorem d_X8_findFar_65 : decode cX8_findFar 65 = .ok (.istore 5, 2) := by decide +kernel
theorem d_X8_findFar_67 : decode cX8_findFar 67 = .ok (.iload 5, 2) := by decide +kernel
theorem d_X8_findFar_69 : decode cX8_findFar 69 = .ok (.ifCond .lt 53, 3) := by decide +kernel
theorem d_X8_findFar_72 : decode cX8_findFar 72 = .ok (.aload_n 0, 1) := by decide +kernel
theorem d_X8_findFar_73 : decode cX8_findFar 73 = .ok (.getfield 32, 3) := by decide +kernel
theorem d_X8_findFar_76 : decode cX8_findFar 76 = .ok (.iload 5, 2) := by decide +kernel
theorem d_X8_findFar_78 : decode cX8_findFar 78 = .ok (.iaload, 1) := by decide +kernel
theorem d_X8_findFar_79 : decode cX8_findFar 79 = .ok (.ifCond .ge 43, 3) := by decide +kernel
theorem d_X8_findFar_82 : decode cX8_findFar 82 = .ok (.aload_n 0, 1) := by decide +kernel
theorem d_X8_findFar_83 : decode cX8_findFar 83 = .ok (.iload 5, 2) := by decide +kernel
theorem d_X8_findFar_85 : decode cX8_findFar 85 = .ok (.invokevirtual 93, 3) := by decide +kernel
theorem d_X8_findFar_88 : decode cX8_findFar 88 = .ok (.ifCond .eq 34, 3) := by decide +kernel
theorem d_X8_findFar_91 : decode cX8_findFar 91 = .ok (.aload_n 0, 1) := by decide +kernel
theorem d_X8_findFar_92 : decode cX8_findFar 92 = .ok (.getfield 32, 3) := by decide +kernel
theorem d_X8_findFar_95 : decode cX8_findFar 95 = .ok (.iload 5, 2) := by decide +kernel
theorem d_X8_findFar_97 : decode cX8_findFar 97 = .ok (.aload_n 0, 1) := by decide +kernel
theorem d_X8_findFar_98 : decode cX8_findFar 98 = .ok (.getfield 32, 3) := by decide +kernel
theorem d_X8_findFar_101 : decode cX8_findFar 101 = .ok (.aload_n 0, 1) := by decide +kernel
theorem d_X8_findFar_102 : decode cX8_findFar 102 = .ok (.getfield 35, 3) := by decide +kernel
theorem d_X8_findFar_105 : decode cX8_findFar 105 = .ok (.iload_n 3, 1) := by decide +kernel
theorem d_X8_findFar_106 : decode cX8_findFar 106 = .ok (.iaload, 1) := by decide +kernel
theorem d_X8_findFar_107 : decode cX8_findFar 107 = .ok (.iaload, 1) := by decide +kernel
theorem d_X8_findFar_108 : decode cX8_findFar 108 = .ok (.iconst 1, 1) := by decide +kernel
theorem d_X8_findFar_109 : decode cX8_findFar 109 = .ok (.iadd, 1) := by decide +kernel
theorem d_X8_findFar_110 : decode cX8_findFar 110 = .ok (.iastore, 1) := by decide +kernel
theorem d_X8_findFar_111 : decode cX8_findFar 111 = .ok (.aload_n 0, 1) := by decide +kernel
theorem d_X8_findFar_112 : decode cX8_findFar 112 = .ok (.getfield 35, 3) := by decide +kernel
theorem d_X8_findFar_115 : decode cX8_findFar 115 = .ok (.iload_n 2, 1) := by decide +kernel
theorem d_X8_findFar_116 : decode cX8_findFar 116 = .ok (.iload 5, 2) := by decide +kernel
theorem d_X8_findFar_118 : decode cX8_findFar 118 = .ok (.iastore, 1) := by decide +kernel
theorem d_X8_findFar_119 : decode cX8_findFar 119 = .ok (.iinc 2 1, 3) := by decide +kernel
theorem d_X8_findFar_122 : decode cX8_findFar 122 = .ok (.iinc 4 1, 3) := by decide +kernel
theorem d_X8_findFar_125 : decode cX8_findFar 125 = .ok (.goto (-78), 3) := by decide +kernel
theorem d_X8_findFar_128 : decode cX8_findFar 128 = .ok (.iinc 3 1, 3) := by decide +kernel
theorem d_X8_findFar_131 : decode cX8_findFar 131 = .ok (.goto (-92), 3) := by decide +kernel
theorem d_X8_findFar_134 : decode cX8_findFar 134 = .ok (.return_, 1) := by decide +kernel
theorem d_X8_farOf_0 : decode cX8_farOf 0 = .ok (.aload_n 0, 1) := by decide +kernel
theorem d_X8_farOf_1 : decode cX8_farOf 1 = .ok (.iload_n 1, 1) := by decide +kernel
theorem d_X8_farOf_2 : decode cX8_farOf 2 = .ok (.invokevirtual 162, 3) := by decide +kernel
theorem d_X8_farOf_5 : decode cX8_farOf 5 = .ok (.aload_n 0, 1) := by decide +kernel
theorem d_X8_farOf_6 : decode cX8_farOf 6 = .ok (.getfield 32, 3) := by decide +kernel
theorem d_X8_farOf_9 : decode cX8_farOf 9 = .ok (.iload_n 2, 1) := by decide +kernel
theorem d_X8_farOf_10 : decode cX8_farOf 10 = .ok (.iaload, 1) := by decide +kernel
theorem d_X8_farOf_11 : decode cX8_farOf 11 = .ok (.ireturn, 1) := by decide +kernel
theorem d_X8_distance_0 : decode cX8_distance 0 = .ok (.aload_n 0, 1) := by decide +kernel
theorem d_X8_distance_1 : decode cX8_distance 1 = .ok (.aload_n 0, 1) := by decide +kernel
theorem d_X8_distance_2 : decode cX8_distance 2 = .ok (.iload_n 1, 1) := by decide +kernel
theorem d_X8_distance_3 : decode cX8_distance 3 = .ok (.invokevirtual 86, 3) := by decide +kernel
theorem d_X8_distance_6 : decode cX8_distance 6 = .ok (.ifCond .eq 15, 3) := by decide +kernel
theorem d_X8_distance_9 : decode cX8_distance 9 = .ok (.aload_n 0, 1) := by decide +kernel
theorem d_X8_distance_10 : decode cX8_distance 10 = .ok (.iload_n 2, 1) := by decide +kernel
theorem d_X8_distance_11 : decode cX8_distance 11 = .ok (.invokevirtual 86, 3) := by decide +kernel
theorem d_X8_distance_14 : decode cX8_distance 14 = .ok (.ifCond .eq 7, 3) := by decide +kernel
theorem d_X8_distance_17 : decode cX8_distance 17 = .ok (.iconst 0, 1) := by decide +kernel
theorem d_X8_distance_18 : decode cX8_distance 18 = .ok (.goto 4, 3) := by decide +kernel
theorem d_X8_distance_21 : decode cX8_distance 21 = .ok (.iconst 1, 1) := by decide +kernel
theorem d_X8_distance_22 : decode cX8_distance 22 = .ok (.putfield 49, 3) := by decide +kernel
theorem d_X8_distance_25 : decode cX8_distance 25 = .ok (.aload_n 0, 1) := by decide +kernel
theorem d_X8_distance_26 : decode cX8_distance 26 = .ok (.getfield 49, 3) := by decide +kernel
theorem d_X8_distance_29 : decode cX8_distance 29 = .ok (.ifCond .le 5, 3) := by decide +kernel
theorem d_X8_distance_32 : decode cX8_distance 32 = .ok (.iconst 0, 1) := by decide +kernel
theorem d_X8_distance_33 : decode cX8_distance 33 = .ok (.ireturn, 1) := by decide +kernel
theorem d_X8_distance_34 : decode cX8_distance 34 = .ok (.aload_n 0, 1) := by decide +kernel
theorem d_X8_distance_35 : decode cX8_distance 35 = .ok (.iload_n 1, 1) := by decide +kernel
theorem d_X8_distance_36 : decode cX8_distance 36 = .ok (.iload_n 2, 1) := by decide +kernel
theorem d_X8_distance_37 : decode cX8_distance 37 = .ok (.invokevirtual 165, 3) := by decide +kernel
theorem d_X8_distance_40 : decode cX8_distance 40 = .ok (.istore_n 3, 1) := by decide +kernel
theorem d_X8_distance_41 : decode cX8_distance 41 = .ok (.aload_n 0, 1) := by decide +kernel
theorem d_X8_distance_42 : decode cX8_distance 42 = .ok (.iload_n 3, 1) := by decide +kernel
theorem d_X8_distance_43 : decode cX8_distance 43 = .ok (.ifCond .ge 7, 3) := by decide +kernel
theorem d_X8_distance_46 : decode cX8_distance 46 = .ok (.iconst 2, 1) := by decide +kernel
theorem d_X8_distance_47 : decode cX8_distance 47 = .ok (.goto 4, 3) := by decide +kernel
theorem d_X8_distance_50 : decode cX8_distance 50 = .ok (.iconst 0, 1) := by decide +kernel
theorem d_X8_distance_51 : decode cX8_distance 51 = .ok (.putfield 49, 3) := by decide +kernel
theorem d_X8_distance_54 : decode cX8_distance 54 = .ok (.aload_n 0, 1) := by decide +kernel
theorem d_X8_distance_55 : decode cX8_distance 55 = .ok (.getfield 49, 3) := by decide +kernel
theorem d_X8_distance_58 : decode cX8_distance 58 = .ok (.ifCond .le 7, 3) := by decide +kernel
theorem d_X8_distance_61 : decode cX8_distance 61 = .ok (.iconst 0, 1) := by decide +kernel
theorem d_X8_distance_62 : decode cX8_distance 62 = .ok (.goto 4, 3) := by decide +kernel
theorem d_X8_distance_65 : decode cX8_distance 65 = .ok (.iload_n 3, 1) := by decide +kernel
theorem d_X8_distance_66 : decode cX8_distance 66 = .ok (.ireturn, 1) := by decide +kernel
theorem d_X8_distanceAgain_0 : decode cX8_distanceAgain 0 = .ok (.aload_n 0, 1) := by decide +kernel
theorem d_X8_distanceAgain_1 : decode cX8_distanceAgain 1 = .ok (.aload_n 0, 1) := by decide +kernel
theorem d_X8_distanceAgain_2 : decode cX8_distanceAgain 2 = .ok (.iload_n 1, 1) := by decide +kernel
theorem d_X8_distanceAgain_3 : decode cX8_distanceAgain 3 = .ok (.invokevirtual 86, 3) := by decide +kernel
theorem d_X8_distanceAgain_6 : decode cX8_distanceAgain 6 = .ok (.ifCond .eq 15, 3) := by decide +kernel
theorem d_X8_distanceAgain_9 : decode cX8_distanceAgain 9 = .ok (.aload_n 0, 1) := by decide +kernel
theorem d_X8_distanceAgain_10 : decode cX8_distanceAgain 10 = .ok (.iload_n 2, 1) := by decide +kernel
theorem d_X8_distanceAgain_11 : decode cX8_distanceAgain 11 = .ok (.invokevirtual 86, 3) := by decide +kernel
theorem d_X8_distanceAgain_14 : decode cX8_distanceAgain 14 = .ok (.ifCond .eq 7, 3) := by decide +kernel
theorem d_X8_distanceAgain_17 : decode cX8_distanceAgain 17 = .ok (.iconst 0, 1) := by decide +kernel
theorem d_X8_distanceAgain_18 : decode cX8_distanceAgain 18 = .ok (.goto 4, 3) := by decide +kernel
theorem d_X8_distanceAgain_21 : decode cX8_distanceAgain 21 = .ok (.iconst 1, 1) := by decide +kernel
theorem d_X8_distanceAgain_22 : decode cX8_distanceAgain 22 = .ok (.putfield 49, 3) := by decide +kernel
theorem d_X8_distanceAgain_25 : decode cX8_distanceAgain 25 = .ok (.aload_n 0, 1) := by decide +kernel
theorem d_X8_distanceAgain_26 : decode cX8_distanceAgain 26 = .ok (.getfield 49, 3) := by decide +kernel
theorem d_X8_distanceAgain_29 : decode cX8_distanceAgain 29 = .ok (.ifCond .le 5, 3) := by decide +kernel
theorem d_X8_distanceAgain_32 : decode cX8_distanceAgain 32 = .ok (.iconst 0, 1) := by decide +kernel
theorem d_X8_distanceAgain_33 : decode cX8_distanceAgain 33 = .ok (.ireturn, 1) := by decide +kernel
theorem d_X8_distanceAgain_34 : decode cX8_distanceAgain 34 = .ok (.aload_n 0, 1) := by decide +kernel
theorem d_X8_distanceAgain_35 : decode cX8_distanceAgain 35 = .ok (.invokevirtual 67, 3) := by decide +kernel
theorem d_X8_distanceAgain_38 : decode cX8_distanceAgain 38 = .ok (.istore_n 3, 1) := by decide +kernel
theorem d_X8_distanceAgain_39 : decode cX8_distanceAgain 39 = .ok (.iconst 0, 1) := by decide +kernel
theorem d_X8_distanceAgain_40 : decode cX8_distanceAgain 40 = .ok (.istore 4, 2) := by decide +kernel
theorem d_X8_distanceAgain_42 : decode cX8_distanceAgain 42 = .ok (.iload 4, 2) := by decide +kernel
theorem d_X8_distanceAgain_44 : decode cX8_distanceAgain 44 = .ok (.iload_n 3, 1) := by decide +kernel
theorem d_X8_distanceAgain_45 : decode cX8_distanceAgain 45 = .ok (.if_icmp .ge 104, 3) := by decide +kernel
theorem d_X8_distanceAgain_48 : decode cX8_distanceAgain 48 = .ok (.iconst 0, 1) := by decide +kernel
theorem d_X8_distanceAgain_49 : decode cX8_distanceAgain 49 = .ok (.istore 5, 2) := by decide +kernel
theorem d_X8_distanceAgain_51 : decode cX8_distanceAgain 51 = .ok (.iload 5, 2) := by decide +kernel
theorem d_X8_distanceAgain_53 : decode cX8_distanceAgain 53 = .ok (.iload_n 3, 1) := by decide +kernel
theorem d_X8_distanceAgain_54 : decode cX8_distanceAgain 54 = .ok (.if_icmp .ge 36, 3) := by decide +kernel
theorem d_X8_distanceAgain_57 : decode cX8_distanceAgain 57 = .ok (.aload_n 0, 1) := by decide +kernel
theorem d_X8_distanceAgain_58 : decode cX8_distanceAgain 58 = .ok (.getfield 38, 3) := by decide +kernel
theorem d_X8_distanceAgain_61 : decode cX8_distanceAgain 61 = .ok (.bipush 48, 2) := by decide +kernel
theorem d_X8_distanceAgain_63 : decode cX8_distanceAgain 63 = .ok (.iload 4, 2) := by decide +kernel
theorem d_X8_distanceAgain_65 : decode cX8_distanceAgain 65 = .ok (.imul, 1) := by decide +kernel
theorem d_X8_distanceAgain_66 : decode cX8_distanceAgain 66 = .ok (.iload 5, 2) := by decide +kernel
theorem d_X8_distanceAgain_68 : decode cX8_distanceAgain 68 = .ok (.iadd, 1) := by decide +kernel
theorem d_X8_distanceAgain_69 : decode cX8_distanceAgain 69 = .ok (.iload 4, 2) := by decide +kernel
theorem d_X8_distanceAgain_71 : decode cX8_distanceAgain 71 = .ok (.iload 5, 2) := by decide +kernel
theorem d_X8_distanceAgain_73 : decode cX8_distanceAgain 73 = .ok (.if_icmp .ne 7, 3) := by decide +kernel
theorem d_X8_distanceAgain_76 : decode cX8_distanceAgain 76 = .ok (.iconst 0, 1) := by decide +kernel
theorem d_X8_distanceAgain_77 : decode cX8_distanceAgain 77 = .ok (.goto 6, 3) := by decide +kernel
theorem d_X8_distanceAgain_80 : decode cX8_distanceAgain 80 = .ok (.sipush 1000, 3) := by decide +kernel
theorem d_X8_distanceAgain_83 : decode cX8_distanceAgain 83 = .ok (.iastore, 1) := by decide +kernel
theorem d_X8_distanceAgain_84 : decode cX8_distanceAgain 84 = .ok (.iinc 5 1, 3) := by decide +kernel
theorem d_X8_distanceAgain_87 : decode cX8_distanceAgain 87 = .ok (.goto (-36), 3) := by decide +kernel
theorem d_X8_distanceAgain_90 : decode cX8_distanceAgain 90 = .ok (.iconst 0, 1) := by decide +kernel
theorem d_X8_distanceAgain_91 : decode cX8_distanceAgain 91 = .ok (.istore 5, 2) := by decide +kernel
theorem d_X8_distanceAgain_93 : decode cX8_distanceAgain 93 = .ok (.iload 5, 2) := by decide +kernel
theorem d_X8_distanceAgain_95 : decode cX8_distanceAgain 95 = .ok (.iconst 4, 1) := by decide +kernel
theorem d_X8_distanceAgain_96 : decode cX8_distanceAgain 96 = .ok (.if_icmp .ge 47, 3) := by decide +kernel
theorem d_X8_distanceAgain_99 : decode cX8_distanceAgain 99 = .ok (.aload_n 0, 1) := by decide +kernel
theorem d_X8_distanceAgain_100 : decode cX8_distanceAgain 100 = .ok (.iload 4, 2) := by decide +kernel
theorem d_X8_distanceAgain_102 : decode cX8_distanceAgain 102 = .ok (.iload 5, 2) := by decide +kernel
theorem d_X8_distanceAgain_104 : decode cX8_distanceAgain 104 = .ok (.invokevirtual 124, 3) := by decide +kernel
theorem d_X8_distanceAgain_107 : decode cX8_distanceAgain 107 = .ok (.istore 6, 2) := by decide +kernel
theorem d_X8_distanceAgain_109 : decode cX8_distanceAgain 109 = .ok (.iload 6, 2) := by decide +kernel
theorem d_X8_distanceAgain_111 : decode cX8_distanceAgain 111 = .ok (.ifCond .lt 26, 3) := by decide +kernel
theorem d_X8_distanceAgain_114 : decode cX8_distanceAgain 114 = .ok (.aload_n 0, 1) := by decide +kernel
theorem d_X8_distanceAgain_115 : decode cX8_distanceAgain 115 = .ok (.iload 6, 2) := by decide +kernel
theorem d_X8_distanceAgain_117 : decode cX8_distanceAgain 117 = .ok (.invokevirtual 93, 3) := by decide +kernel
theorem d_X8_distanceAgain_120 : decode cX8_distanceAgain 120 = .ok (.ifCond .eq 17, 3) := by decide +kernel
theorem d_X8_distanceAgain_123 : decode cX8_distanceAgain 123 = .ok (.aload_n 0, 1) := by decide +kernel
theorem d_X8_distanceAgain_124 : decode cX8_distanceAgain 124 = .ok (.getfield 38, 3) := by decide +kernel
theorem d_X8_distanceAgain_127 : decode cX8_distanceAgain 127 = .ok (.bipush 48, 2) := by decide +kernel
theorem d_X8_distanceAgain_129 : decode cX8_distanceAgain 129 = .ok (.iload 4, 2) := by decide +kernel
theorem d_X8_distanceAgain_131 : decode cX8_distanceAgain 131 = .ok (.imul, 1) := by decide +kernel
theorem d_X8_distanceAgain_132 : decode cX8_distanceAgain 132 = .ok (.iload 6, 2) := by decide +kernel
theorem d_X8_distanceAgain_134 : decode cX8_distanceAgain 134 = .ok (.iadd, 1) := by decide +kernel
theorem d_X8_distanceAgain_135 : decode cX8_distanceAgain 135 = .ok (.iconst 1, 1) := by decide +kernel
theorem d_X8_distanceAgain_136 : decode cX8_distanceAgain 136 = .ok (.iastore, 1) := by decide +kernel
theorem d_X8_distanceAgain_137 : decode cX8_distanceAgain 137 = .ok (.iinc 5 1, 3) := by decide +kernel
theorem d_X8_distanceAgain_140 : decode cX8_distanceAgain 140 = .ok (.goto (-47), 3) := by decide +kernel
theorem d_X8_distanceAgain_143 : decode cX8_distanceAgain 143 = .ok (.iinc 4 1, 3) := by decide +kernel
theorem d_X8_distanceAgain_146 : decode cX8_distanceAgain 146 = .ok (.goto (-104), 3) := by decide +kernel
theorem d_X8_distanceAgain_149 : decode cX8_distanceAgain 149 = .ok (.iconst 0, 1) := by decide +kernel
theorem d_X8_distanceAgain_150 : decode cX8_distanceAgain 150 = .ok (.istore 4, 2) := by decide +kernel
theorem d_X8_distanceAgain_152 : decode cX8_distanceAgain 152 = .ok (.iload 4, 2) := by decide +kernel
theorem d_X8_distanceAgain_154 : decode cX8_distanceAgain 154 = .ok (.iload_n 3, 1) := by decide +kernel
theorem d_X8_distanceAgain_155 : decode cX8_distanceAgain 155 = .ok (.if_icmp .ge 99, 3) := by decide +kernel
theorem d_X8_distanceAgain_158 : decode cX8_distanceAgain 158 = .ok (.iconst 0, 1) := by decide +kernel
theorem d_X8_distanceAgain_159 : decode cX8_distanceAgain 159 = .ok (.istore 5, 2) := by decide +kernel
theorem d_X8_distanceAgain_161 : decode cX8_distanceAgain 161 = .ok (.iload 5, 2) := by decide +kernel
theorem d_X8_distanceAgain_163 : decode cX8_distanceAgain 163 = .ok (.iload_n 3, 1) := by decide +kernel
theorem d_X8_distanceAgain_164 : decode cX8_distanceAgain 164 = .ok (.if_icmp .ge 84, 3) := by decide +kernel
theorem d_X8_distanceAgain_167 : decode cX8_distanceAgain 167 = .ok (.iconst 0, 1) := by decide +kernel
theorem d_X8_distanceAgain_168 : decode cX8_distanceAgain 168 = .ok (.istore 6, 2) := by decide +kernel
theorem d_X8_distanceAgain_170 : decode cX8_distanceAgain 170 = .ok (.iload 6, 2) := by decide +kernel
theorem d_X8_distanceAgain_172 : decode cX8_distanceAgain 172 = .ok (.iload_n 3, 1) := by decide +kernel
theorem d_X8_distanceAgain_173 : decode cX8_distanceAgain 173 = .ok (.if_icmp .ge 69, 3) := by decide +kernel
theorem d_X8_distanceAgain_176 : decode cX8_distanceAgain 176 = .ok (.aload_n 0, 1) := by decide +kernel
theorem d_X8_distanceAgain_177 : decode cX8_distanceAgain 177 = .ok (.getfield 38, 3) := by decide +kernel
theorem d_X8_distanceAgain_180 : decode cX8_distanceAgain 180 = .ok (.bipush 48, 2) := by decide +kernel
theorem d_X8_distanceAgain_182 : decode cX8_distanceAgain 182 = .ok (.iload 5, 2) := by decide +kernel
theorem d_X8_distanceAgain_184 : decode cX8_distanceAgain 184 = .ok (.imul, 1) := by decide +kernel
theorem d_X8_distanceAgain_185 : decode cX8_distanceAgain 185 = .ok (.iload 4, 2) := by decide +kernel
theorem d_X8_distanceAgain_187 : decode cX8_distanceAgain 187 = .ok (.iadd, 1) := by decide +kernel
theorem d_X8_distanceAgain_188 : decode cX8_distanceAgain 188 = .ok (.iaload, 1) := by decide +kernel
theorem d_X8_distanceAgain_189 : decode cX8_distanceAgain 189 = .ok (.aload_n 0, 1) := by decide +kernel
theorem d_X8_distanceAgain_190 : decode cX8_distanceAgain 190 = .ok (.getfield 38, 3) := by decide +kernel
theorem d_X8_distanceAgain_193 : decode cX8_distanceAgain 193 = .ok (.bipush 48, 2) := by decide +kernel
theorem d_X8_distanceAgain_195 : decode cX8_distanceAgain 195 = .ok (.iload 4, 2) := by decide +kernel
theorem d_X8_distanceAgain_197 : decode cX8_distanceAgain 197 = .ok (.imul, 1) := by decide +kernel
theorem d_X8_distanceAgain_198 : decode cX8_distanceAgain 198 = .ok (.iload 6, 2) := by decide +kernel
theorem d_X8_distanceAgain_200 : decode cX8_distanceAgain 200 = .ok (.iadd, 1) := by decide +kernel
theorem d_X8_distanceAgain_201 : decode cX8_distanceAgain 201 = .ok (.iaload, 1) := by decide +kernel
theorem d_X8_distanceAgain_202 : decode cX8_distanceAgain 202 = .ok (.iadd, 1) := by decide +kernel
theorem d_X8_distanceAgain_203 : decode cX8_distanceAgain 203 = .ok (.istore 7, 2) := by decide +kernel
theorem d_X8_distanceAgain_205 : decode cX8_distanceAgain 205 = .ok (.aload_n 0, 1) := by decide +kernel
theorem d_X8_distanceAgain_206 : decode cX8_distanceAgain 206 = .ok (.getfield 38, 3) := by decide +kernel
theorem d_X8_distanceAgain_209 : decode cX8_distanceAgain 209 = .ok (.bipush 48, 2) := by decide +kernel
theorem d_X8_distanceAgain_211 : decode cX8_distanceAgain 211 = .ok (.iload 5, 2) := by decide +kernel
theorem d_X8_distanceAgain_213 : decode cX8_distanceAgain 213 = .ok (.imul, 1) := by decide +kernel
theorem d_X8_distanceAgain_214 : decode cX8_distanceAgain 214 = .ok (.iload 6, 2) := by decide +kernel
theorem d_X8_distanceAgain_216 : decode cX8_distanceAgain 216 = .ok (.iadd, 1) := by decide +kernel
theorem d_X8_distanceAgain_217 : decode cX8_distanceAgain 217 = .ok (.aload_n 0, 1) := by decide +kernel
theorem d_X8_distanceAgain_218 : decode cX8_distanceAgain 218 = .ok (.getfield 38, 3) := by decide +kernel
theorem d_X8_distanceAgain_221 : decode cX8_distanceAgain 221 = .ok (.bipush 48, 2) := by decide +kernel
theorem d_X8_distanceAgain_223 : decode cX8_distanceAgain 223 = .ok (.iload 5, 2) := by decide +kernel
theorem d_X8_distanceAgain_225 : decode cX8_distanceAgain 225 = .ok (.imul, 1) := by decide +kernel
theorem d_X8_distanceAgain_226 : decode cX8_distanceAgain 226 = .ok (.iload 6, 2) := by decide +kernel
theorem d_X8_distanceAgain_228 : decode cX8_distanceAgain 228 = .ok (.iadd, 1) := by decide +kernel
theorem d_X8_distanceAgain_229 : decode cX8_distanceAgain 229 = .ok (.iaload, 1) := by decide +kernel
theorem d_X8_distanceAgain_230 : decode cX8_distanceAgain 230 = .ok (.iload 7, 2) := by decide +kernel
theorem d_X8_distanceAgain_232 : decode cX8_distanceAgain 232 = .ok (.invokestatic 151, 3) := by decide +kernel
theorem d_X8_distanceAgain_235 : decode cX8_distanceAgain 235 = .ok (.iastore, 1) := by decide +kernel
theorem d_X8_distanceAgain_236 : decode cX8_distanceAgain 236 = .ok (.iinc 6 1, 3) := by decide +kernel
theorem d_X8_distanceAgain_239 : decode cX8_distanceAgain 239 = .ok (.goto (-69), 3) := by decide +kernel
theorem d_X8_distanceAgain_242 : decode cX8_distanceAgain 242 = .ok (.iinc 5 1, 3) := by decide +kernel
theorem d_X8_distanceAgain_245 : decode cX8_distanceAgain 245 = .ok (.goto (-84), 3) := by decide +kernel
theorem d_X8_distanceAgain_248 : decode cX8_distanceAgain 248 = .ok (.iinc 4 1, 3) := by decide +kernel
theorem d_X8_distanceAgain_251 : decode cX8_distanceAgain 251 = .ok (.goto (-99), 3) := by decide +kernel
theorem d_X8_distanceAgain_254 : decode cX8_distanceAgain 254 = .ok (.aload_n 0, 1) := by decide +kernel
theorem d_X8_distanceAgain_255 : decode cX8_distanceAgain 255 = .ok (.getfield 38, 3) := by decide +kernel
theorem d_X8_distanceAgain_258 : decode cX8_distanceAgain 258 = .ok (.bipush 48, 2) := by decide +kernel
theorem d_X8_distanceAgain_260 : decode cX8_distanceAgain 260 = .ok (.iload_n 1, 1) := by decide +kernel
theorem d_X8_distanceAgain_261 : decode cX8_distanceAgain 261 = .ok (.imul, 1) := by decide +kernel
theorem d_X8_distanceAgain_262 : decode cX8_distanceAgain 262 = .ok (.iload_n 2, 1) := by decide +kernel
theorem d_X8_distanceAgain_263 : decode cX8_distanceAgain 263 = .ok (.iadd, 1) := by decide +kernel
theorem d_X8_distanceAgain_264 : decode cX8_distanceAgain 264 = .ok (.iaload, 1) := by decide +kernel
theorem d_X8_distanceAgain_265 : decode cX8_distanceAgain 265 = .ok (.istore 4, 2) := by decide +kernel
theorem d_X8_distanceAgain_267 : decode cX8_distanceAgain 267 = .ok (.aload_n 0, 1) := by decide +kernel
theorem d_X8_distanceAgain_268 : decode cX8_distanceAgain 268 = .ok (.iload 4, 2) := by decide +kernel
theorem d_X8_distanceAgain_270 : decode cX8_distanceAgain 270 = .ok (.sipush 1000, 3) := by decide +kernel
theorem d_X8_distanceAgain_273 : decode cX8_distanceAgain 273 = .ok (.if_icmp .lt 7, 3) := by decide +kernel
theorem d_X8_distanceAgain_276 : decode cX8_distanceAgain 276 = .ok (.iconst 2, 1) := by decide +kernel
theorem d_X8_distanceAgain_277 : decode cX8_distanceAgain 277 = .ok (.goto 4, 3) := by decide +kernel
theorem d_X8_distanceAgain_280 : decode cX8_distanceAgain 280 = .ok (.iconst 0, 1) := by decide +kernel
theorem d_X8_distanceAgain_281 : decode cX8_distanceAgain 281 = .ok (.putfield 49, 3) := by decide +kernel
theorem d_X8_distanceAgain_284 : decode cX8_distanceAgain 284 = .ok (.aload_n 0, 1) := by decide +kernel
theorem d_X8_distanceAgain_285 : decode cX8_distanceAgain 285 = .ok (.getfield 49, 3) := by decide +kernel
theorem d_X8_distanceAgain_288 : decode cX8_distanceAgain 288 = .ok (.ifCond .le 7, 3) := by decide +kernel
theorem d_X8_distanceAgain_291 : decode cX8_distanceAgain 291 = .ok (.iconst 0, 1) := by decide +kernel
theorem d_X8_distanceAgain_292 : decode cX8_distanceAgain 292 = .ok (.goto 5, 3) := by decide +kernel
theorem d_X8_distanceAgain_295 : decode cX8_distanceAgain 295 = .ok (.iload 4, 2) := by decide +kernel
theorem d_X8_distanceAgain_297 : decode cX8_distanceAgain 297 = .ok (.ireturn, 1) := by decide +kernel
theorem d_X8_reach_0 : decode cX8_reach 0 = .ok (.aload_n 0, 1) := by decide +kernel
theorem d_X8_reach_1 : decode cX8_reach 1 = .ok (.aload_n 0, 1) := by decide +kernel
theorem d_X8_reach_2 : decode cX8_reach 2 = .ok (.iload_n 1, 1) := by decide +kernel
theorem d_X8_reach_3 : decode cX8_reach 3 = .ok (.invokevirtual 86, 3) := by decide +kernel
theorem d_X8_reach_6 : decode cX8_reach 6 = .ok (.ifCond .eq 7, 3) := by decide +kernel
theorem d_X8_reach_9 : decode cX8_reach 9 = .ok (.iconst 0, 1) := by decide +kernel
theorem d_X8_reach_10 : decode cX8_reach 10 = .ok (.goto 4, 3) := by decide +kernel
theorem d_X8_reach_13 : decode cX8_reach 13 = .ok (.iconst 1, 1) := by decide +kernel
theorem d_X8_reach_14 : decode cX8_reach 14 = .ok (.putfield 49, 3) := by decide +kernel
theorem d_X8_reach_17 : decode cX8_reach 17 = .ok (.aload_n 0, 1) := by decide +kernel
theorem d_X8_reach_18 : decode cX8_reach 18 = .ok (.getfield 49, 3) := by decide +kernel
theorem d_X8_reach_21 : decode cX8_reach 21 = .ok (.ifCond .le 5, 3) := by decide +kernel
theorem d_X8_reach_24 : decode cX8_reach 24 = .ok (.iconst 0, 1) := by decide +kernel
theorem d_X8_reach_25 : decode cX8_reach 25 = .ok (.ireturn, 1) := by decide +kernel
theorem d_X8_reach_26 : decode cX8_reach 26 = .ok (.aload_n 0, 1) := by decide +kernel
theorem d_X8_reach_27 : decode cX8_reach 27 = .ok (.iload_n 1, 1) := by decide +kernel
theorem d_X8_reach_28 : decode cX8_reach 28 = .ok (.invokevirtual 162, 3) := by decide +kernel
theorem d_X8_reach_31 : decode cX8_reach 31 = .ok (.iconst 0, 1) := by decide +kernel
theorem d_X8_reach_32 : decode cX8_reach 32 = .ok (.istore_n 2, 1) := by decide +kernel
theorem d_X8_reach_33 : decode cX8_reach 33 = .ok (.iconst 0, 1) := by decide +kernel
theorem d_X8_reach_34 : decode cX8_reach 34 = .ok (.istore_n 3, 1) := by decide +kernel
theorem d_X8_reach_35 : decode cX8_reach 35 = .ok (.iload_n 3, 1) := by decide +kernel
theorem d_X8_reach_36 : decode cX8_reach 36 = .ok (.aload_n 0, 1) := by decide +kernel
theorem d_X8_reach_37 : decode cX8_reach 37 = .ok (.invokevirtual 67, 3) := by decide +kernel
theorem d_X8_reach_40 : decode cX8_reach 40 = .ok (.if_icmp .ge 26, 3) := by decide +kernel
theorem d_X8_reach_43 : decode cX8_reach 43 = .ok (.iload_n 2, 1) := by decide +kernel
theorem d_X8_reach_44 : decode cX8_reach 44 = .ok (.aload_n 0, 1) := by decide +kernel
theorem d_X8_reach_45 : decode cX8_reach 45 = .ok (.getfield 32, 3) := by decide +kernel
theorem d_X8_reach_48 : decode cX8_reach 48 = .ok (.iload_n 3, 1) := by decide +kernel
theorem d_X8_reach_49 : decode cX8_reach 49 = .ok (.iaload, 1) := by decide +kernel
theorem d_X8_reach_50 : decode cX8_reach 50 = .ok (.ifCond .lt 7, 3) := by decide +kernel
theorem d_X8_reach_53 : decode cX8_reach 53 = .ok (.iconst 1, 1) := by decide +kernel
theorem d_X8_reach_54 : decode cX8_reach 54 = .ok (.goto 4, 3) := by decide +kernel
theorem d_X8_reach_57 : decode cX8_reach 57 = .ok (.iconst 0, 1) := by decide +kernel
theorem d_X8_reach_58 : decode cX8_reach 58 = .ok (.iadd, 1) := by decide +kernel
theorem d_X8_reach_59 : decode cX8_reach 59 = .ok (.istore_n 2, 1) := by decide +kernel
theorem d_X8_reach_60 : decode cX8_reach 60 = .ok (.iinc 3 1, 3) := by decide +kernel
theorem d_X8_reach_63 : decode cX8_reach 63 = .ok (.goto (-28), 3) := by decide +kernel
theorem d_X8_reach_66 : decode cX8_reach 66 = .ok (.iload_n 2, 1) := by decide +kernel
theorem d_X8_reach_67 : decode cX8_reach 67 = .ok (.ireturn, 1) := by decide +kernel
theorem d_X8_farthest_0 : decode cX8_farthest 0 = .ok (.aload_n 0, 1) := by decide +kernel
theorem d_X8_farthest_1 : decode cX8_farthest 1 = .ok (.aload_n 0, 1) := by decide +kernel
theorem d_X8_farthest_2 : decode cX8_farthest 2 = .ok (.iload_n 1, 1) := by decide +kernel
theorem d_X8_farthest_3 : decode cX8_farthest 3 = .ok (.invokevirtual 86, 3) := by decide +kernel
theorem d_X8_farthest_6 : decode cX8_farthest 6 = .ok (.ifCond .eq 7, 3) := by decide +kernel
theorem d_X8_farthest_9 : decode cX8_farthest 9 = .ok (.iconst 0, 1) := by decide +kernel
theorem d_X8_farthest_10 : decode cX8_farthest 10 = .ok (.goto 4, 3) := by decide +kernel
theorem d_X8_farthest_13 : decode cX8_farthest 13 = .ok (.iconst 1, 1) := by decide +kernel
theorem d_X8_farthest_14 : decode cX8_farthest 14 = .ok (.putfield 49, 3) := by decide +kernel
theorem d_X8_farthest_17 : decode cX8_farthest 17 = .ok (.aload_n 0, 1) := by decide +kernel
theorem d_X8_farthest_18 : decode cX8_farthest 18 = .ok (.getfield 49, 3) := by decide +kernel
theorem d_X8_farthest_21 : decode cX8_farthest 21 = .ok (.ifCond .le 5, 3) := by decide +kernel
theorem d_X8_farthest_24 : decode cX8_farthest 24 = .ok (.iconst 0, 1) := by decide +kernel
theorem d_X8_farthest_25 : decode cX8_farthest 25 = .ok (.ireturn, 1) := by decide +kernel
theorem d_X8_farthest_26 : decode cX8_farthest 26 = .ok (.aload_n 0, 1) := by decide +kernel
theorem d_X8_farthest_27 : decode cX8_farthest 27 = .ok (.iload_n 1, 1) := by decide +kernel
theorem d_X8_farthest_28 : decode cX8_farthest 28 = .ok (.invokevirtual 162, 3) := by decide +kernel
theorem d_X8_farthest_31 : decode cX8_farthest 31 = .ok (.iload_n 1, 1) := by decide +kernel
theorem d_X8_farthest_32 : decode cX8_farthest 32 = .ok (.istore_n 2, 1) := by decide +kernel
theorem d_X8_farthest_33 : decode cX8_farthest 33 = .ok (.aload_n 0, 1) := by decide +kernel
theorem d_X8_farthest_34 : decode cX8_farthest 34 = .ok (.invokevirtual 67, 3) := by decide +kernel
theorem d_X8_farthest_37 : decode cX8_farthest 37 = .ok (.iconst 1, 1) := by decide +kernel
theorem d_X8_farthest_38 : decode cX8_farthest 38 = .ok (.isub, 1) := by decide +kernel
theorem d_X8_farthest_39 : decode cX8_farthest 39 = .ok (.istore_n 3, 1) := by decide +kernel
theorem d_X8_farthest_40 : decode cX8_farthest 40 = .ok (.iload_n 3, 1) := by decide +kernel
theorem d_X8_farthest_41 : decode cX8_farthest 41 = .ok (.ifCond .lt 30, 3) := by decide +kernel
theorem d_X8_farthest_44 : decode cX8_farthest 44 = .ok (.aload_n 0, 1) := by decide +kernel
theorem d_X8_farthest_45 : decode cX8_farthest 45 = .ok (.getfield 32, 3) := by decide +kernel
theorem d_X8_farthest_48 : decode cX8_farthest 48 = .ok (.iload_n 3, 1) := by decide +kernel
theorem d_X8_farthest_49 : decode cX8_farthest 49 = .ok (.iaload, 1) := by decide +kernel
theorem d_X8_farthest_50 : decode cX8_farthest 50 = .ok (.aload_n 0, 1) := by decide +kernel
theorem d_X8_farthest_51 : decode cX8_farthest 51 = .ok (.getfield 32, 3) := by decide +kernel
theorem d_X8_farthest_54 : decode cX8_farthest 54 = .ok (.iload_n 2, 1) := by decide +kernel
theorem d_X8_farthest_55 : decode cX8_farthest 55 = .ok (.iaload, 1) := by decide +kernel
theorem d_X8_farthest_56 : decode cX8_farthest 56 = .ok (.if_icmp .lt 7, 3) := by decide +kernel
theorem d_X8_farthest_59 : decode cX8_farthest 59 = .ok (.iload_n 3, 1) := by decide +kernel
theorem d_X8_farthest_60 : decode cX8_farthest 60 = .ok (.goto 4, 3) := by decide +kernel
theorem d_X8_farthest_63 : decode cX8_farthest 63 = .ok (.iload_n 2, 1) := by decide +kernel
theorem d_X8_farthest_64 : decode cX8_farthest 64 = .ok (.istore_n 2, 1) := by decide +kernel
theorem d_X8_farthest_65 : decode cX8_farthest 65 = .ok (.iinc 3 (-1), 3) := by decide +kernel
theorem d_X8_farthest_68 : decode cX8_farthest 68 = .ok (.goto (-28), 3) := by decide +kernel
theorem d_X8_farthest_71 : decode cX8_farthest 71 = .ok (.iload_n 2, 1) := by decide +kernel
theorem d_X8_farthest_72 : decode cX8_farthest 72 = .ok (.ireturn, 1) := by decide +kernel
theorem d_X8_robotIn_0 : decode cX8_robotIn 0 = .ok (.iconst (-1), 1) := by decide +kernel
theorem d_X8_robotIn_1 : decode cX8_robotIn 1 = .ok (.istore_n 3, 1) := by decide +kernel
theorem d_X8_robotIn_2 : decode cX8_robotIn 2 = .ok (.aload_n 0, 1) := by decide +kernel
theorem d_X8_robotIn_3 : decode cX8_robotIn 3 = .ok (.getfield 9, 3) := by decide +kernel
theorem d_X8_robotIn_6 : decode cX8_robotIn 6 = .ok (.iconst 3, 1) := by decide +kernel
theorem d_X8_robotIn_7 : decode cX8_robotIn 7 = .ok (.iaload, 1) := by decide +kernel
theorem d_X8_robotIn_8 : decode cX8_robotIn 8 = .ok (.iconst 1, 1) := by decide +kernel
theorem d_X8_robotIn_9 : decode cX8_robotIn 9 = .ok (.isub, 1) := by decide +kernel
theorem d_X8_robotIn_10 : decode cX8_robotIn 10 = .ok (.istore 4, 2) := by decide +kernel
theorem d_X8_robotIn_12 : decode cX8_robotIn 12 = .ok (.iload 4, 2) := by decide +kernel
theorem d_X8_robotIn_14 : decode cX8_robotIn 14 = .ok (.ifCond .lt 27, 3) := by decide +kernel
theorem d_X8_robotIn_17 : decode cX8_robotIn 17 = .ok (.aload_n 0, 1) := by decide +kernel
theorem d_X8_robotIn_18 : decode cX8_robotIn 18 = .ok (.iload 4, 2) := by decide +kernel
theorem d_X8_robotIn_20 : decode cX8_robotIn 20 = .ok (.iload_n 2, 1) := by decide +kernel
theorem d_X8_robotIn_21 : decode cX8_robotIn 21 = .ok (.invokevirtual 83, 3) := by decide +kernel
theorem d_X8_robotIn_24 : decode cX8_robotIn 24 = .ok (.iload_n 1, 1) := by decide +kernel
theorem d_X8_robotIn_25 : decode cX8_robotIn 25 = .ok (.if_icmp .ne 8, 3) := by decide +kernel
theorem d_X8_robotIn_28 : decode cX8_robotIn 28 = .ok (.iload 4, 2) := by decide +kernel
theorem d_X8_robotIn_30 : decode cX8_robotIn 30 = .ok (.goto 4, 3) := by decide +kernel
theorem d_X8_robotIn_33 : decode cX8_robotIn 33 = .ok (.iload_n 3, 1) := by decide +kernel
theorem d_X8_robotIn_34 : decode cX8_robotIn 34 = .ok (.istore_n 3, 1) := by decide +kernel
theorem d_X8_robotIn_35 : decode cX8_robotIn 35 = .ok (.iinc 4 (-1), 3) := by decide +kernel
theorem d_X8_robotIn_38 : decode cX8_robotIn 38 = .ok (.goto (-26), 3) := by decide +kernel
theorem d_X8_robotIn_41 : decode cX8_robotIn 41 = .ok (.iload_n 3, 1) := by decide +kernel
theorem d_X8_robotIn_42 : decode cX8_robotIn 42 = .ok (.ireturn, 1) := by decide +kernel
theorem d_X8_cell_0 : decode cX8_cell 0 = .ok (.aload_n 0, 1) := by decide +kernel
theorem d_X8_cell_1 : decode cX8_cell 1 = .ok (.aload_n 0, 1) := by decide +kernel
theorem d_X8_cell_2 : decode cX8_cell 2 = .ok (.iload_n 1, 1) := by decide +kernel
theorem d_X8_cell_3 : decode cX8_cell 3 = .ok (.invokevirtual 86, 3) := by decide +kernel
theorem d_X8_cell_6 : decode cX8_cell 6 = .ok (.ifCond .ne 7, 3) := by decide +kernel
theorem d_X8_cell_9 : decode cX8_cell 9 = .ok (.iconst 1, 1) := by decide +kernel
theorem d_X8_cell_10 : decode cX8_cell 10 = .ok (.goto 17, 3) := by decide +kernel
theorem d_X8_cell_13 : decode cX8_cell 13 = .ok (.iload_n 2, 1) := by decide +kernel
theorem d_X8_cell_14 : decode cX8_cell 14 = .ok (.iconst 0, 1) := by decide +kernel
theorem d_X8_cell_15 : decode cX8_cell 15 = .ok (.iconst 3, 1) := by decide +kernel
theorem d_X8_cell_16 : decode cX8_cell 16 = .ok (.invokestatic 71, 3) := by decide +kernel
theorem d_X8_cell_19 : decode cX8_cell 19 = .ok (.ifCond .ne 7, 3) := by decide +kernel
theorem d_X8_cell_22 : decode cX8_cell 22 = .ok (.iconst 2, 1) := by decide +kernel
theorem d_X8_cell_23 : decode cX8_cell 23 = .ok (.goto 4, 3) := by decide +kernel
theorem d_X8_cell_26 : decode cX8_cell 26 = .ok (.iconst 0, 1) := by decide +kernel
theorem d_X8_cell_27 : decode cX8_cell 27 = .ok (.putfield 49, 3) := by decide +kernel
theorem d_X8_cell_30 : decode cX8_cell 30 = .ok (.aload_n 0, 1) := by decide +kernel
theorem d_X8_cell_31 : decode cX8_cell 31 = .ok (.getfield 49, 3) := by decide +kernel
theorem d_X8_cell_34 : decode cX8_cell 34 = .ok (.ifCond .le 5, 3) := by decide +kernel
theorem d_X8_cell_37 : decode cX8_cell 37 = .ok (.iconst 0, 1) := by decide +kernel
theorem d_X8_cell_38 : decode cX8_cell 38 = .ok (.ireturn, 1) := by decide +kernel
theorem d_X8_cell_39 : decode cX8_cell 39 = .ok (.iload_n 2, 1) := by decide +kernel
theorem d_X8_cell_40 : decode cX8_cell 40 = .ok (.tableswitch 59 0 2 #[28, 38, 52], 28) := by decide +kernel
theorem d_X8_cell_68 : decode cX8_cell 68 = .ok (.aload_n 0, 1) := by decide +kernel
theorem d_X8_cell_69 : decode cX8_cell 69 = .ok (.getfield 9, 3) := by decide +kernel
theorem d_X8_cell_72 : decode cX8_cell 72 = .ok (.bipush 8, 2) := by decide +kernel
theorem d_X8_cell_74 : decode cX8_cell 74 = .ok (.iload_n 1, 1) := by decide +kernel
theorem d_X8_cell_75 : decode cX8_cell 75 = .ok (.iadd, 1) := by decide +kernel
theorem d_X8_cell_76 : decode cX8_cell 76 = .ok (.iaload, 1) := by decide +kernel
theorem d_X8_cell_77 : decode cX8_cell 77 = .ok (.ireturn, 1) := by decide +kernel
theorem d_X8_cell_78 : decode cX8_cell 78 = .ok (.aload_n 0, 1) := by decide +kernel
theorem d_X8_cell_79 : decode cX8_cell 79 = .ok (.iload_n 1, 1) := by decide +kernel
theorem d_X8_cell_80 : decode cX8_cell 80 = .ok (.invokevirtual 93, 3) := by decide +kernel
theorem d_X8_cell_83 : decode cX8_cell 83 = .ok (.ifCond .eq 7, 3) := by decide +kernel
theorem d_X8_cell_86 : decode cX8_cell 86 = .ok (.iconst 1, 1) := by decide +kernel
theorem d_X8_cell_87 : decode cX8_cell 87 = .ok (.goto 4, 3) := by decide +kernel
theorem d_X8_cell_90 : decode cX8_cell 90 = .ok (.iconst 0, 1) := by decide +kernel
theorem d_X8_cell_91 : decode cX8_cell 91 = .ok (.ireturn, 1) := by decide +kernel
theorem d_X8_cell_92 : decode cX8_cell 92 = .ok (.aload_n 0, 1) := by decide +kernel
theorem d_X8_cell_93 : decode cX8_cell 93 = .ok (.iload_n 1, 1) := by decide +kernel
theorem d_X8_cell_94 : decode cX8_cell 94 = .ok (.iconst 0, 1) := by decide +kernel
theorem d_X8_cell_95 : decode cX8_cell 95 = .ok (.invokevirtual 168, 3) := by decide +kernel
theorem d_X8_cell_98 : decode cX8_cell 98 = .ok (.ireturn, 1) := by decide +kernel
theorem d_X8_cell_99 : decode cX8_cell 99 = .ok (.iconst 0, 1) := by decide +kernel
theorem d_X8_cell_100 : decode cX8_cell 100 = .ok (.istore_n 3, 1) := by decide +kernel
theorem d_X8_cell_101 : decode cX8_cell 101 = .ok (.iconst 0, 1) := by decide +kernel
theorem d_X8_cell_102 : decode cX8_cell 102 = .ok (.istore 4, 2) := by decide +kernel
theorem d_X8_cell_104 : decode cX8_cell 104 = .ok (.iload 4, 2) := by decide +kernel
theorem d_X8_cell_106 : decode cX8_cell 106 = .ok (.iconst 4, 1) := by decide +kernel
theorem d_X8_cell_107 : decode cX8_cell 107 = .ok (.if_icmp .ge 40, 3) := by decide +kernel
theorem d_X8_cell_110 : decode cX8_cell 110 = .ok (.aload_n 0, 1) := by decide +kernel
theorem d_X8_cell_111 : decode cX8_cell 111 = .ok (.iload_n 1, 1) := by decide +kernel
theorem d_X8_cell_112 : decode cX8_cell 112 = .ok (.iload 4, 2) := by decide +kernel
theorem d_X8_cell_114 : decode cX8_cell 114 = .ok (.invokevirtual 124, 3) := by decide +kernel
theorem d_X8_cell_117 : decode cX8_cell 117 = .ok (.istore 5, 2) := by decide +kernel
theorem d_X8_cell_119 : decode cX8_cell 119 = .ok (.iload_n 3, 1) := by decide +kernel
theorem d_X8_cell_120 : decode cX8_cell 120 = .ok (.iload 5, 2) := by decide +kernel
theorem d_X8_cell_122 : decode cX8_cell 122 = .ok (.ifCond .lt 16, 3) := by decide +kernel
theorem d_X8_cell_125 : decode cX8_cell 125 = .ok (.aload_n 0, 1) := by decide +kernel
theorem d_X8_cell_126 : decode cX8_cell 126 = .ok (.iload 5, 2) := by decide +kernel
theorem d_X8_cell_128 : decode cX8_cell 128 = .ok (.invokevirtual 93, 3) := by decide +kernel
theorem d_X8_cell_131 : decode cX8_cell 131 = .ok (.ifCond .eq 7, 3) := by decide +kernel
theorem d_X8_cell_134 : decode cX8_cell 134 = .ok (.iconst 1, 1) := by decide +kernel
theorem d_X8_cell_135 : decode cX8_cell 135 = .ok (.goto 4, 3) := by decide +kernel
theorem d_X8_cell_138 : decode cX8_cell 138 = .ok (.iconst 0, 1) := by decide +kernel
theorem d_X8_cell_139 : decode cX8_cell 139 = .ok (.iadd, 1) := by decide +kernel
theorem d_X8_cell_140 : decode cX8_cell 140 = .ok (.istore_n 3, 1) := by decide +kernel
theorem d_X8_cell_141 : decode cX8_cell 141 = .ok (.iinc 4 1, 3) := by decide +kernel
theorem d_X8_cell_144 : decode cX8_cell 144 = .ok (.goto (-40), 3) := by decide +kernel
theorem d_X8_cell_147 : decode cX8_cell 147 = .ok (.iload_n 3, 1) := by decide +kernel
theorem d_X8_cell_148 : decode cX8_cell 148 = .ok (.ireturn, 1) := by decide +kernel
theorem d_X8_letter_0 : decode cX8_letter 0 = .ok (.aload_n 0, 1) := by decide +kernel
theorem d_X8_letter_1 : decode cX8_letter 1 = .ok (.aload_n 0, 1) := by decide +kernel
theorem d_X8_letter_2 : decode cX8_letter 2 = .ok (.iload_n 1, 1) := by decide +kernel
theorem d_X8_letter_3 : decode cX8_letter 3 = .ok (.invokevirtual 86, 3) := by decide +kernel
theorem d_X8_letter_6 : decode cX8_letter 6 = .ok (.ifCond .eq 7, 3) := by decide +kernel
theorem d_X8_letter_9 : decode cX8_letter 9 = .ok (.iconst 0, 1) := by decide +kernel
theorem d_X8_letter_10 : decode cX8_letter 10 = .ok (.goto 4, 3) := by decide +kernel
theorem d_X8_letter_13 : decode cX8_letter 13 = .ok (.iconst 1, 1) := by decide +kernel
theorem d_X8_letter_14 : decode cX8_letter 14 = .ok (.putfield 49, 3) := by decide +kernel
theorem d_X8_letter_17 : decode cX8_letter 17 = .ok (.aload_n 0, 1) := by decide +kernel
theorem d_X8_letter_18 : decode cX8_letter 18 = .ok (.getfield 49, 3) := by decide +kernel
theorem d_X8_letter_21 : decode cX8_letter 21 = .ok (.ifCond .le 6, 3) := by decide +kernel
theorem d_X8_letter_24 : decode cX8_letter 24 = .ok (.bipush 32, 2) := by decide +kernel
theorem d_X8_letter_26 : decode cX8_letter 26 = .ok (.ireturn, 1) := by decide +kernel
theorem d_X8_letter_27 : decode cX8_letter 27 = .ok (.aload_n 0, 1) := by decide +kernel
theorem d_X8_letter_28 : decode cX8_letter 28 = .ok (.iload_n 1, 1) := by decide +kernel
theorem d_X8_letter_29 : decode cX8_letter 29 = .ok (.iconst 0, 1) := by decide +kernel
theorem d_X8_letter_30 : decode cX8_letter 30 = .ok (.invokevirtual 168, 3) := by decide +kernel
theorem d_X8_letter_33 : decode cX8_letter 33 = .ok (.istore_n 2, 1) := by decide +kernel
theorem d_X8_letter_34 : decode cX8_letter 34 = .ok (.iload_n 2, 1) := by decide +kernel
theorem d_X8_letter_35 : decode cX8_letter 35 = .ok (.ifCond .lt 9, 3) := by decide +kernel
theorem d_X8_letter_38 : decode cX8_letter 38 = .ok (.bipush 48, 2) := by decide +kernel
theorem d_X8_letter_40 : decode cX8_letter 40 = .ok (.iload_n 2, 1) := by decide +kernel
theorem d_X8_letter_41 : decode cX8_letter 41 = .ok (.iadd, 1) := by decide +kernel
theorem d_X8_letter_42 : decode cX8_letter 42 = .ok (.i2c, 1) := by decide +kernel
theorem d_X8_letter_43 : decode cX8_letter 43 = .ok (.ireturn, 1) := by decide +kernel
theorem d_X8_letter_44 : decode cX8_letter 44 = .ok (.aload_n 0, 1) := by decide +kernel
theorem d_X8_letter_45 : decode cX8_letter 45 = .ok (.getfield 9, 3) := by decide +kernel
theorem d_X8_letter_48 : decode cX8_letter 48 = .ok (.bipush 56, 2) := by decide +kernel
theorem d_X8_letter_50 : decode cX8_letter 50 = .ok (.iload_n 1, 1) := by decide +kernel
theorem d_X8_letter_51 : decode cX8_letter 51 = .ok (.iadd, 1) := by decide +kernel
theorem d_X8_letter_52 : decode cX8_letter 52 = .ok (.iaload, 1) := by decide +kernel
theorem d_X8_letter_53 : decode cX8_letter 53 = .ok (.iconst 1, 1) := by decide +kernel
theorem d_X8_letter_54 : decode cX8_letter 54 = .ok (.if_icmp .ne 8, 3) := by decide +kernel
theorem d_X8_letter_57 : decode cX8_letter 57 = .ok (.bipush 120, 2) := by decide +kernel
theorem d_X8_letter_59 : decode cX8_letter 59 = .ok (.goto 17, 3) := by decide +kernel
theorem d_X8_letter_62 : decode cX8_letter 62 = .ok (.ldc 171, 2) := by decide +kernel
theorem d_X8_letter_64 : decode cX8_letter 64 = .ok (.aload_n 0, 1) := by decide +kernel
theorem d_X8_letter_65 : decode cX8_letter 65 = .ok (.getfield 9, 3) := by decide +kernel
theorem d_X8_letter_68 : decode cX8_letter 68 = .ok (.bipush 8, 2) := by decide +kernel
theorem d_X8_letter_70 : decode cX8_letter 70 = .ok (.iload_n 1, 1) := by decide +kernel
theorem d_X8_letter_71 : decode cX8_letter 71 = .ok (.iadd, 1) := by decide +kernel
theorem d_X8_letter_72 : decode cX8_letter 72 = .ok (.iaload, 1) := by decide +kernel
theorem d_X8_letter_73 : decode cX8_letter 73 = .ok (.invokevirtual 173, 3) := by decide +kernel
theorem d_X8_letter_76 : decode cX8_letter 76 = .ok (.ireturn, 1) := by decide +kernel
theorem d_X8_robotOf_0 : decode cX8_robotOf 0 = .ok (.aload_n 0, 1) := by decide +kernel
theorem d_X8_robotOf_1 : decode cX8_robotOf 1 = .ok (.aload_n 0, 1) := by decide +kernel
theorem d_X8_robotOf_2 : decode cX8_robotOf 2 = .ok (.iload_n 1, 1) := by decide +kernel
theorem d_X8_robotOf_3 : decode cX8_robotOf 3 = .ok (.invokevirtual 103, 3) := by decide +kernel
theorem d_X8_robotOf_6 : decode cX8_robotOf 6 = .ok (.ifCond .ne 7, 3) := by decide +kernel
theorem d_X8_robotOf_9 : decode cX8_robotOf 9 = .ok (.iconst 1, 1) := by decide +kernel
theorem d_X8_robotOf_10 : decode cX8_robotOf 10 = .ok (.goto 18, 3) := by decide +kernel
theorem d_X8_robotOf_13 : decode cX8_robotOf 13 = .ok (.iload_n 2, 1) := by decide +kernel
theorem d_X8_robotOf_14 : decode cX8_robotOf 14 = .ok (.iconst 0, 1) := by decide +kernel
theorem d_X8_robotOf_15 : decode cX8_robotOf 15 = .ok (.bipush 6, 2) := by decide +kernel
theorem d_X8_robotOf_17 : decode cX8_robotOf 17 = .ok (.invokestatic 71, 3) := by decide +kernel
theorem d_X8_robotOf_20 : decode cX8_robotOf 20 = .ok (.ifCond .ne 7, 3) := by decide +kernel
theorem d_X8_robotOf_23 : decode cX8_robotOf 23 = .ok (.iconst 2, 1) := by decide +kernel
theorem d_X8_robotOf_24 : decode cX8_robotOf 24 = .ok (.goto 4, 3) := by decide +kernel
theorem d_X8_robotOf_27 : decode cX8_robotOf 27 = .ok (.iconst 0, 1) := by decide +kernel
theorem d_X8_robotOf_28 : decode cX8_robotOf 28 = .ok (.putfield 49, 3) := by decide +kernel
theorem d_X8_robotOf_31 : decode cX8_robotOf 31 = .ok (.aload_n 0, 1) := by decide +kernel
theorem d_X8_robotOf_32 : decode cX8_robotOf 32 = .ok (.getfield 49, 3) := by decide +kernel
theorem d_X8_robotOf_35 : decode cX8_robotOf 35 = .ok (.ifCond .le 5, 3) := by decide +kernel
theorem d_X8_robotOf_38 : decode cX8_robotOf 38 = .ok (.iconst 0, 1) := by decide +kernel
theorem d_X8_robotOf_39 : decode cX8_robotOf 39 = .ok (.ireturn, 1) := by decide +kernel
theorem d_X8_robotOf_40 : decode cX8_robotOf 40 = .ok (.iload_n 2, 1) := by decide +kernel
theorem d_X8_robotOf_41 : decode cX8_robotOf 41 = .ok (.tableswitch 80 3 6 #[31, 38, 59, 73], 31) := by decide +kernel
theorem d_X8_robotOf_72 : decode cX8_robotOf 72 = .ok (.aload_n 0, 1) := by decide +kernel
theorem d_X8_robotOf_73 : decode cX8_robotOf 73 = .ok (.iload_n 1, 1) := by decide +kernel
theorem d_X8_robotOf_74 : decode cX8_robotOf 74 = .ok (.iconst 3, 1) := by decide +kernel
theorem d_X8_robotOf_75 : decode cX8_robotOf 75 = .ok (.invokevirtual 79, 3) := by decide +kernel
theorem d_X8_robotOf_78 : decode cX8_robotOf 78 = .ok (.ireturn, 1) := by decide +kernel
theorem d_X8_robotOf_79 : decode cX8_robotOf 79 = .ok (.aload_n 0, 1) := by decide +kernel
theorem d_X8_robotOf_80 : decode cX8_robotOf 80 = .ok (.iload_n 1, 1) := by decide +kernel
theorem d_X8_robotOf_81 : decode cX8_robotOf 81 = .ok (.iconst 3, 1) := by decide +kernel
theorem d_X8_robotOf_82 : decode cX8_robotOf 82 = .ok (.invokevirtual 79, 3) := by decide +kernel
theorem d_X8_robotOf_85 : decode cX8_robotOf 85 = .ok (.ifCond .ne 7, 3) := by decide +kernel
theorem d_X8_robotOf_88 : decode cX8_robotOf 88 = .ok (.iconst (-1), 1) := by decide +kernel
theorem d_X8_robotOf_89 : decode cX8_robotOf 89 = .ok (.goto 10, 3) := by decide +kernel
theorem d_X8_robotOf_92 : decode cX8_robotOf 92 = .ok (.aload_n 0, 1) := by decide +kernel
theorem d_X8_robotOf_93 : decode cX8_robotOf 93 = .ok (.iload_n 1, 1) := by decide +kernel
theorem d_X8_robotOf_94 : decode cX8_robotOf 94 = .ok (.bipush 30, 2) := by decide +kernel
theorem d_X8_robotOf_96 : decode cX8_robotOf 96 = .ok (.invokevirtual 83, 3) := by decide +kernel
theorem d_X8_robotOf_99 : decode cX8_robotOf 99 = .ok (.ireturn, 1) := by decide +kernel
theorem d_X8_robotOf_100 : decode cX8_robotOf 100 = .ok (.aload_n 0, 1) := by decide +kernel
theorem d_X8_robotOf_101 : decode cX8_robotOf 101 = .ok (.iload_n 1, 1) := by decide +kernel
theorem d_X8_robotOf_102 : decode cX8_robotOf 102 = .ok (.invokevirtual 145, 3) := by decide +kernel
theorem d_X8_robotOf_105 : decode cX8_robotOf 105 = .ok (.ifCond .eq 7, 3) := by decide +kernel
theorem d_X8_robotOf_108 : decode cX8_robotOf 108 = .ok (.iconst 1, 1) := by decide +kernel
theorem d_X8_robotOf_109 : decode cX8_robotOf 109 = .ok (.goto 4, 3) := by decide +kernel
theorem d_X8_robotOf_112 : decode cX8_robotOf 112 = .ok (.iconst 0, 1) := by decide +kernel
theorem d_X8_robotOf_113 : decode cX8_robotOf 113 = .ok (.ireturn, 1) := by decide +kernel
theorem d_X8_robotOf_114 : decode cX8_robotOf 114 = .ok (.aload_n 0, 1) := by decide +kernel
theorem d_X8_robotOf_115 : decode cX8_robotOf 115 = .ok (.iload_n 1, 1) := by decide +kernel
theorem d_X8_robotOf_116 : decode cX8_robotOf 116 = .ok (.iconst 5, 1) := by decide +kernel
theorem d_X8_robotOf_117 : decode cX8_robotOf 117 = .ok (.invokevirtual 79, 3) := by decide +kernel
theorem d_X8_robotOf_120 : decode cX8_robotOf 120 = .ok (.ireturn, 1) := by decide +kernel
theorem d_X8_robotOf_121 : decode cX8_robotOf 121 = .ok (.aload_n 0, 1) := by decide +kernel
theorem d_X8_robotOf_122 : decode cX8_robotOf 122 = .ok (.iload_n 1, 1) := by decide +kernel
theorem d_X8_robotOf_123 : decode cX8_robotOf 123 = .ok (.iload_n 2, 1) := by decide +kernel
theorem d_X8_robotOf_124 : decode cX8_robotOf 124 = .ok (.invokevirtual 79, 3) := by decide +kernel
theorem d_X8_robotOf_127 : decode cX8_robotOf 127 = .ok (.ireturn, 1) := by decide +kernel
theorem d_X8_planned_0 : decode cX8_planned 0 = .ok (.aload_n 0, 1) := by decide +kernel
theorem d_X8_planned_1 : decode cX8_planned 1 = .ok (.aload_n 0, 1) := by decide +kernel
theorem d_X8_planned_2 : decode cX8_planned 2 = .ok (.iload_n 1, 1) := by decide +kernel
theorem d_X8_planned_3 : decode cX8_planned 3 = .ok (.invokevirtual 103, 3) := by decide +kernel
theorem d_X8_planned_6 : decode cX8_planned 6 = .ok (.ifCond .ne 7, 3) := by decide +kernel
theorem d_X8_planned_9 : decode cX8_planned 9 = .ok (.iconst 1, 1) := by decide +kernel
theorem d_X8_planned_10 : decode cX8_planned 10 = .ok (.goto 12, 3) := by decide +kernel
theorem d_X8_planned_13 : decode cX8_planned 13 = .ok (.iload_n 2, 1) := by decide +kernel
theorem d_X8_planned_14 : decode cX8_planned 14 = .ok (.ifCond .ge 7, 3) := by decide +kernel
theorem d_X8_planned_17 : decode cX8_planned 17 = .ok (.iconst 2, 1) := by decide +kernel
theorem d_X8_planned_18 : decode cX8_planned 18 = .ok (.goto 4, 3) := by decide +kernel
theorem d_X8_planned_21 : decode cX8_planned 21 = .ok (.iconst 0, 1) := by decide +kernel
theorem d_X8_planned_22 : decode cX8_planned 22 = .ok (.putfield 49, 3) := by decide +kernel
theorem d_X8_planned_25 : decode cX8_planned 25 = .ok (.aload_n 0, 1) := by decide +kernel
theorem d_X8_planned_26 : decode cX8_planned 26 = .ok (.getfield 49, 3) := by decide +kernel
theorem d_X8_planned_29 : decode cX8_planned 29 = .ok (.ifCond .le 7, 3) := by decide +kernel
theorem d_X8_planned_32 : decode cX8_planned 32 = .ok (.iconst 0, 1) := by decide +kernel
theorem d_X8_planned_33 : decode cX8_planned 33 = .ok (.goto 9, 3) := by decide +kernel
theorem d_X8_planned_36 : decode cX8_planned 36 = .ok (.aload_n 0, 1) := by decide +kernel
theorem d_X8_planned_37 : decode cX8_planned 37 = .ok (.iload_n 1, 1) := by decide +kernel
theorem d_X8_planned_38 : decode cX8_planned 38 = .ok (.iload_n 2, 1) := by decide +kernel
theorem d_X8_planned_39 : decode cX8_planned 39 = .ok (.invokevirtual 83, 3) := by decide +kernel
theorem d_X8_planned_42 : decode cX8_planned 42 = .ok (.ireturn, 1) := by decide +kernel
theorem d_X8_reserved_0 : decode cX8_reserved 0 = .ok (.aload_n 0, 1) := by decide +kernel
theorem d_X8_reserved_1 : decode cX8_reserved 1 = .ok (.aload_n 0, 1) := by decide +kernel
theorem d_X8_reserved_2 : decode cX8_reserved 2 = .ok (.iload_n 1, 1) := by decide +kernel
theorem d_X8_reserved_3 : decode cX8_reserved 3 = .ok (.invokevirtual 86, 3) := by decide +kernel
theorem d_X8_reserved_6 : decode cX8_reserved 6 = .ok (.ifCond .ne 7, 3) := by decide +kernel
theorem d_X8_reserved_9 : decode cX8_reserved 9 = .ok (.iconst 1, 1) := by decide +kernel
theorem d_X8_reserved_10 : decode cX8_reserved 10 = .ok (.goto 12, 3) := by decide +kernel
theorem d_X8_reserved_13 : decode cX8_reserved 13 = .ok (.iload_n 2, 1) := by decide +kernel
theorem d_X8_reserved_14 : decode cX8_reserved 14 = .ok (.ifCond .ge 7, 3) := by decide +kernel
theorem d_X8_reserved_17 : decode cX8_reserved 17 = .ok (.iconst 2, 1) := by decide +kernel
theorem d_X8_reserved_18 : decode cX8_reserved 18 = .ok (.goto 4, 3) := by decide +kernel
theorem d_X8_reserved_21 : decode cX8_reserved 21 = .ok (.iconst 0, 1) := by decide +kernel
theorem d_X8_reserved_22 : decode cX8_reserved 22 = .ok (.putfield 49, 3) := by decide +kernel
theorem d_X8_reserved_25 : decode cX8_reserved 25 = .ok (.aload_n 0, 1) := by decide +kernel
theorem d_X8_reserved_26 : decode cX8_reserved 26 = .ok (.getfield 49, 3) := by decide +kernel
theorem d_X8_reserved_29 : decode cX8_reserved 29 = .ok (.ifCond .le 7, 3) := by decide +kernel
theorem d_X8_reserved_32 : decode cX8_reserved 32 = .ok (.iconst 0, 1) := by decide +kernel
theorem d_X8_reserved_33 : decode cX8_reserved 33 = .ok (.goto 9, 3) := by decide +kernel
theorem d_X8_reserved_36 : decode cX8_reserved 36 = .ok (.aload_n 0, 1) := by decide +kernel
theorem d_X8_reserved_37 : decode cX8_reserved 37 = .ok (.iload_n 1, 1) := by decide +kernel
theorem d_X8_reserved_38 : decode cX8_reserved 38 = .ok (.iload_n 2, 1) := by decide +kernel
theorem d_X8_reserved_39 : decode cX8_reserved 39 = .ok (.invokevirtual 168, 3) := by decide +kernel
theorem d_X8_reserved_42 : decode cX8_reserved 42 = .ok (.ireturn, 1) := by decide +kernel
theorem d_X8_arrival_0 : decode cX8_arrival 0 = .ok (.aload_n 0, 1) := by decide +kernel
theorem d_X8_arrival_1 : decode cX8_arrival 1 = .ok (.aload_n 0, 1) := by decide +kernel
theorem d_X8_arrival_2 : decode cX8_arrival 2 = .ok (.iload_n 1, 1) := by decide +kernel
theorem d_X8_arrival_3 : decode cX8_arrival 3 = .ok (.invokevirtual 103, 3) := by decide +kernel
theorem d_X8_arrival_6 : decode cX8_arrival 6 = .ok (.ifCond .eq 15, 3) := by decide +kernel
theorem d_X8_arrival_9 : decode cX8_arrival 9 = .ok (.aload_n 0, 1) := by decide +kernel
theorem d_X8_arrival_10 : decode cX8_arrival 10 = .ok (.iload_n 2, 1) := by decide +kernel
theorem d_X8_arrival_11 : decode cX8_arrival 11 = .ok (.invokevirtual 86, 3) := by decide +kernel
theorem d_X8_arrival_14 : decode cX8_arrival 14 = .ok (.ifCond .eq 7, 3) := by decide +kernel
theorem d_X8_arrival_17 : decode cX8_arrival 17 = .ok (.iconst 0, 1) := by decide +kernel
theorem d_X8_arrival_18 : decode cX8_arrival 18 = .ok (.goto 4, 3) := by decide +kernel
theorem d_X8_arrival_21 : decode cX8_arrival 21 = .ok (.iconst 1, 1) := by decide +kernel
theorem d_X8_arrival_22 : decode cX8_arrival 22 = .ok (.putfield 49, 3) := by decide +kernel
theorem d_X8_arrival_25 : decode cX8_arrival 25 = .ok (.aload_n 0, 1) := by decide +kernel
theorem d_X8_arrival_26 : decode cX8_arrival 26 = .ok (.getfield 49, 3) := by decide +kernel
theorem d_X8_arrival_29 : decode cX8_arrival 29 = .ok (.ifCond .gt 13, 3) := by decide +kernel
theorem d_X8_arrival_32 : decode cX8_arrival 32 = .ok (.aload_n 0, 1) := by decide +kernel
theorem d_X8_arrival_33 : decode cX8_arrival 33 = .ok (.iload_n 1, 1) := by decide +kernel
theorem d_X8_arrival_34 : decode cX8_arrival 34 = .ok (.iconst 0, 1) := by decide +kernel
theorem d_X8_arrival_35 : decode cX8_arrival 35 = .ok (.invokevirtual 79, 3) := by decide +kernel
theorem d_X8_arrival_38 : decode cX8_arrival 38 = .ok (.iload_n 2, 1) := by decide +kernel
theorem d_X8_arrival_39 : decode cX8_arrival 39 = .ok (.if_icmp .ne 5, 3) := by decide +kernel
theorem d_X8_arrival_42 : decode cX8_arrival 42 = .ok (.iconst 0, 1) := by decide +kernel
theorem d_X8_arrival_43 : decode cX8_arrival 43 = .ok (.ireturn, 1) := by decide +kernel
theorem d_X8_arrival_44 : decode cX8_arrival 44 = .ok (.aload_n 0, 1) := by decide +kernel
theorem d_X8_arrival_45 : decode cX8_arrival 45 = .ok (.iload_n 2, 1) := by decide +kernel
theorem d_X8_arrival_46 : decode cX8_arrival 46 = .ok (.invokevirtual 93, 3) := by decide +kernel
theorem d_X8_arrival_49 : decode cX8_arrival 49 = .ok (.ifCond .eq 12, 3) := by decide +kernel
theorem d_X8_arrival_52 : decode cX8_arrival 52 = .ok (.aload_n 0, 1) := by decide +kernel
theorem d_X8_arrival_53 : decode cX8_arrival 53 = .ok (.iload_n 1, 1) := by decide +kernel
theorem d_X8_arrival_54 : decode cX8_arrival 54 = .ok (.iload_n 2, 1) := by decide +kernel
theorem d_X8_arrival_55 : decode cX8_arrival 55 = .ok (.invokevirtual 142, 3) := by decide +kernel
theorem d_X8_arrival_58 : decode cX8_arrival 58 = .ok (.goto 4, 3) := by decide +kernel
theorem d_X8_arrival_61 : decode cX8_arrival 61 = .ok (.iconst (-1), 1) := by decide +kernel
theorem d_X8_arrival_62 : decode cX8_arrival 62 = .ok (.istore_n 3, 1) := by decide +kernel
theorem d_X8_arrival_63 : decode cX8_arrival 63 = .ok (.aload_n 0, 1) := by decide +kernel
theorem d_X8_arrival_64 : decode cX8_arrival 64 = .ok (.iload_n 3, 1) := by decide +kernel
theorem d_X8_arrival_65 : decode cX8_arrival 65 = .ok (.ifCond .ge 7, 3) := by decide +kernel
theorem d_X8_arrival_68 : decode cX8_arrival 68 = .ok (.iconst 2, 1) := by decide +kernel
theorem d_X8_arrival_69 : decode cX8_arrival 69 = .ok (.goto 4, 3) := by decide +kernel
theorem d_X8_arrival_72 : decode cX8_arrival 72 = .ok (.iconst 0, 1) := by decide +kernel
theorem d_X8_arrival_73 : decode cX8_arrival 73 = .ok (.putfield 49, 3) := by decide +kernel
theorem d_X8_arrival_76 : decode cX8_arrival 76 = .ok (.aload_n 0, 1) := by decide +kernel
theorem d_X8_arrival_77 : decode cX8_arrival 77 = .ok (.getfield 49, 3) := by decide +kernel
theorem d_X8_arrival_80 : decode cX8_arrival 80 = .ok (.ifCond .le 7, 3) := by decide +kernel
theorem d_X8_arrival_83 : decode cX8_arrival 83 = .ok (.iconst 0, 1) := by decide +kernel
theorem d_X8_arrival_84 : decode cX8_arrival 84 = .ok (.goto 4, 3) := by decide +kernel
theorem d_X8_arrival_87 : decode cX8_arrival 87 = .ok (.iload_n 3, 1) := by decide +kernel
theorem d_X8_arrival_88 : decode cX8_arrival 88 = .ok (.ireturn, 1) := by decide +kernel
theorem d_X8_arrivalAgain_0 : decode cX8_arrivalAgain 0 = .ok (.aload_n 0, 1) := by decide +kernel
theorem d_X8_arrivalAgain_1 : decode cX8_arrivalAgain 1 = .ok (.iload_n 1, 1) := by decide +kernel
theorem d_X8_arrivalAgain_2 : decode cX8_arrivalAgain 2 = .ok (.iload_n 2, 1) := by decide +kernel
theorem d_X8_arrivalAgain_3 : decode cX8_arrivalAgain 3 = .ok (.invokevirtual 179, 3) := by decide +kernel
theorem d_X8_arrivalAgain_6 : decode cX8_arrivalAgain 6 = .ok (.ireturn, 1) := by decide +kernel
theorem d_X8_orderOf_0 : decode cX8_orderOf 0 = .ok (.aload_n 0, 1) := by decide +kernel
theorem d_X8_orderOf_1 : decode cX8_orderOf 1 = .ok (.aload_n 0, 1) := by decide +kernel
theorem d_X8_orderOf_2 : decode cX8_orderOf 2 = .ok (.iload_n 1, 1) := by decide +kernel
theorem d_X8_orderOf_3 : decode cX8_orderOf 3 = .ok (.invokevirtual 112, 3) := by decide +kernel
theorem d_X8_orderOf_6 : decode cX8_orderOf 6 = .ok (.ifCond .ne 7, 3) := by decide +kernel
theorem d_X8_orderOf_9 : decode cX8_orderOf 9 = .ok (.iconst 1, 1) := by decide +kernel
theorem d_X8_orderOf_10 : decode cX8_orderOf 10 = .ok (.goto 17, 3) := by decide +kernel
theorem d_X8_orderOf_13 : decode cX8_orderOf 13 = .ok (.iload_n 2, 1) := by decide +kernel
theorem d_X8_orderOf_14 : decode cX8_orderOf 14 = .ok (.iconst 0, 1) := by decide +kernel
theorem d_X8_orderOf_15 : decode cX8_orderOf 15 = .ok (.iconst 5, 1) := by decide +kernel
theorem d_X8_orderOf_16 : decode cX8_orderOf 16 = .ok (.invokestatic 71, 3) := by decide +kernel
theorem d_X8_orderOf_19 : decode cX8_orderOf 19 = .ok (.ifCond .ne 7, 3) := by decide +kernel
theorem d_X8_orderOf_22 : decode cX8_orderOf 22 = .ok (.iconst 2, 1) := by decide +kernel
theorem d_X8_orderOf_23 : decode cX8_orderOf 23 = .ok (.goto 4, 3) := by decide +kernel
theorem d_X8_orderOf_26 : decode cX8_orderOf 26 = .ok (.iconst 0, 1) := by decide +kernel
theorem d_X8_orderOf_27 : decode cX8_orderOf 27 = .ok (.putfield 49, 3) := by decide +kernel
theorem d_X8_orderOf_30 : decode cX8_orderOf 30 = .ok (.aload_n 0, 1) := by decide +kernel
theorem d_X8_orderOf_31 : decode cX8_orderOf 31 = .ok (.getfield 49, 3) := by decide +kernel
theorem d_X8_orderOf_34 : decode cX8_orderOf 34 = .ok (.ifCond .le 5, 3) := by decide +kernel
theorem d_X8_orderOf_37 : decode cX8_orderOf 37 = .ok (.iconst 0, 1) := by decide +kernel
theorem d_X8_orderOf_38 : decode cX8_orderOf 38 = .ok (.ireturn, 1) := by decide +kernel
theorem d_X8_orderOf_39 : decode cX8_orderOf 39 = .ok (.iload_n 2, 1) := by decide +kernel
theorem d_X8_orderOf_40 : decode cX8_orderOf 40 = .ok (.tableswitch 48 3 5 #[28, 34, 41], 28) := by decide +kernel
theorem d_X8_orderOf_68 : decode cX8_orderOf 68 = .ok (.aload_n 0, 1) := by decide +kernel
theorem d_X8_orderOf_69 : decode cX8_orderOf 69 = .ok (.iload_n 1, 1) := by decide +kernel
theorem d_X8_orderOf_70 : decode cX8_orderOf 70 = .ok (.invokevirtual 115, 3) := by decide +kernel
theorem d_X8_orderOf_73 : decode cX8_orderOf 73 = .ok (.ireturn, 1) := by decide +kernel
theorem d_X8_orderOf_74 : decode cX8_orderOf 74 = .ok (.aload_n 0, 1) := by decide +kernel
theorem d_X8_orderOf_75 : decode cX8_orderOf 75 = .ok (.iload_n 1, 1) := by decide +kernel
theorem d_X8_orderOf_76 : decode cX8_orderOf 76 = .ok (.iconst 3, 1) := by decide +kernel
theorem d_X8_orderOf_77 : decode cX8_orderOf 77 = .ok (.invokevirtual 109, 3) := by decide +kernel
theorem d_X8_orderOf_80 : decode cX8_orderOf 80 = .ok (.ireturn, 1) := by decide +kernel
theorem d_X8_orderOf_81 : decode cX8_orderOf 81 = .ok (.aload_n 0, 1) := by decide +kernel
theorem d_X8_orderOf_82 : decode cX8_orderOf 82 = .ok (.iload_n 1, 1) := by decide +kernel
theorem d_X8_orderOf_83 : decode cX8_orderOf 83 = .ok (.iconst 4, 1) := by decide +kernel
theorem d_X8_orderOf_84 : decode cX8_orderOf 84 = .ok (.invokevirtual 109, 3) := by decide +kernel
theorem d_X8_orderOf_87 : decode cX8_orderOf 87 = .ok (.ireturn, 1) := by decide +kernel
theorem d_X8_orderOf_88 : decode cX8_orderOf 88 = .ok (.aload_n 0, 1) := by decide +kernel
theorem d_X8_orderOf_89 : decode cX8_orderOf 89 = .ok (.iload_n 1, 1) := by decide +kernel
theorem d_X8_orderOf_90 : decode cX8_orderOf 90 = .ok (.iload_n 2, 1) := by decide +kernel
theorem d_X8_orderOf_91 : decode cX8_orderOf 91 = .ok (.invokevirtual 109, 3) := by decide +kernel
theorem d_X8_orderOf_94 : decode cX8_orderOf 94 = .ok (.ireturn, 1) := by decide +kernel
theorem d_X8_line_0 : decode cX8_line 0 = .ok (.aload_n 0, 1) := by decide +kernel
theorem d_X8_line_1 : decode cX8_line 1 = .ok (.aload_n 0, 1) := by decide +kernel
theorem d_X8_line_2 : decode cX8_line 2 = .ok (.iload_n 1, 1) := by decide +kernel
theorem d_X8_line_3 : decode cX8_line 3 = .ok (.invokevirtual 112, 3) := by decide +kernel
theorem d_X8_line_6 : decode cX8_line 6 = .ok (.ifCond .eq 23, 3) := by decide +kernel
theorem d_X8_line_9 : decode cX8_line 9 = .ok (.iload_n 2, 1) := by decide +kernel
theorem d_X8_line_10 : decode cX8_line 10 = .ok (.iconst 0, 1) := by decide +kernel
theorem d_X8_line_11 : decode cX8_line 11 = .ok (.aload_n 0, 1) := by decide +kernel
theorem d_X8_line_12 : decode cX8_line 12 = .ok (.iload_n 1, 1) := by decide +kernel
theorem d_X8_line_13 : decode cX8_line 13 = .ok (.iconst 1, 1) := by decide +kernel
theorem d_X8_line_14 : decode cX8_line 14 = .ok (.invokevirtual 109, 3) := by decide +kernel
theorem d_X8_line_17 : decode cX8_line 17 = .ok (.iconst 1, 1) := by decide +kernel
theorem d_X8_line_18 : decode cX8_line 18 = .ok (.isub, 1) := by decide +kernel
theorem d_X8_line_19 : decode cX8_line 19 = .ok (.invokestatic 71, 3) := by decide +kernel
theorem d_X8_line_22 : decode cX8_line 22 = .ok (.ifCond .eq 7, 3) := by decide +kernel
theorem d_X8_line_25 : decode cX8_line 25 = .ok (.iconst 0, 1) := by decide +kernel
theorem d_X8_line_26 : decode cX8_line 26 = .ok (.goto 4, 3) := by decide +kernel
theorem d_X8_line_29 : decode cX8_line 29 = .ok (.iconst 1, 1) := by decide +kernel
theorem d_X8_line_30 : decode cX8_line 30 = .ok (.putfield 49, 3) := by decide +kernel
theorem d_X8_line_33 : decode cX8_line 33 = .ok (.aload_n 0, 1) := by decide +kernel
theorem d_X8_line_34 : decode cX8_line 34 = .ok (.getfield 49, 3) := by decide +kernel
theorem d_X8_line_37 : decode cX8_line 37 = .ok (.ifCond .le 7, 3) := by decide +kernel
theorem d_X8_line_40 : decode cX8_line 40 = .ok (.iconst 0, 1) := by decide +kernel
theorem d_X8_line_41 : decode cX8_line 41 = .ok (.goto 11, 3) := by decide +kernel
theorem d_X8_line_44 : decode cX8_line 44 = .ok (.aload_n 0, 1) := by decide +kernel
theorem d_X8_line_45 : decode cX8_line 45 = .ok (.iload_n 1, 1) := by decide +kernel
theorem d_X8_line_46 : decode cX8_line 46 = .ok (.iconst 5, 1) := by decide +kernel
theorem d_X8_line_47 : decode cX8_line 47 = .ok (.iload_n 2, 1) := by decide +kernel
theorem d_X8_line_48 : decode cX8_line 48 = .ok (.iadd, 1) := by decide +kernel
theorem d_X8_line_49 : decode cX8_line 49 = .ok (.invokevirtual 109, 3) := by decide +kernel
theorem d_X8_line_52 : decode cX8_line 52 = .ok (.ireturn, 1) := by decide +kernel
theorem d_X8_isAhead_0 : decode cX8_isAhead 0 = .ok (.aload_n 0, 1) := by decide +kernel
theorem d_X8_isAhead_1 : decode cX8_isAhead 1 = .ok (.iload_n 1, 1) := by decide +kernel
theorem d_X8_isAhead_2 : decode cX8_isAhead 2 = .ok (.iconst 0, 1) := by decide +kernel
theorem d_X8_isAhead_3 : decode cX8_isAhead 3 = .ok (.invokevirtual 109, 3) := by decide +kernel
theorem d_X8_isAhead_6 : decode cX8_isAhead 6 = .ok (.aload_n 0, 1) := by decide +kernel
theorem d_X8_isAhead_7 : decode cX8_isAhead 7 = .ok (.iload_n 2, 1) := by decide +kernel
theorem d_X8_isAhead_8 : decode cX8_isAhead 8 = .ok (.iconst 0, 1) := by decide +kernel
theorem d_X8_isAhead_9 : decode cX8_isAhead 9 = .ok (.invokevirtual 109, 3) := by decide +kernel
theorem d_X8_isAhead_12 : decode cX8_isAhead 12 = .ok (.isub, 1) := by decide +kernel
theorem d_X8_isAhead_13 : decode cX8_isAhead 13 = .ok (.istore_n 3, 1) := by decide +kernel
theorem d_X8_isAhead_14 : decode cX8_isAhead 14 = .ok (.iload_n 3, 1) := by decide +kernel
theorem d_X8_isAhead_15 : decode cX8_isAhead 15 = .ok (.ifCond .ne 33, 3) := by decide +kernel
theorem d_X8_isAhead_18 : decode cX8_isAhead 18 = .ok (.aload_n 0, 1) := by decide +kernel
theorem d_X8_isAhead_19 : decode cX8_isAhead 19 = .ok (.iload_n 2, 1) := by decide +kernel
theorem d_X8_isAhead_20 : decode cX8_isAhead 20 = .ok (.iconst 1, 1) := by decide +kernel
theorem d_X8_isAhead_21 : decode cX8_isAhead 21 = .ok (.invokevirtual 109, 3) := by decide +kernel
theorem d_X8_isAhead_24 : decode cX8_isAhead 24 = .ok (.aload_n 0, 1) := by decide +kernel
theorem d_X8_isAhead_25 : decode cX8_isAhead 25 = .ok (.iload_n 2, 1) := by decide +kernel
theorem d_X8_isAhead_26 : decode cX8_isAhead 26 = .ok (.iconst 2, 1) := by decide +kernel
theorem d_X8_isAhead_27 : decode cX8_isAhead 27 = .ok (.invokevirtual 109, 3) := by decide +kernel
theorem d_X8_isAhead_30 : decode cX8_isAhead 30 = .ok (.isub, 1) := by decide +kernel
theorem d_X8_isAhead_31 : decode cX8_isAhead 31 = .ok (.aload_n 0, 1) := by decide +kernel
theorem d_X8_isAhead_32 : decode cX8_isAhead 32 = .ok (.iload_n 1, 1) := by decide +kernel
theorem d_X8_isAhead_33 : decode cX8_isAhead 33 = .ok (.iconst 1, 1) := by decide +kernel
theorem d_X8_isAhead_34 : decode cX8_isAhead 34 = .ok (.invokevirtual 109, 3) := by decide +kernel
theorem d_X8_isAhead_37 : decode cX8_isAhead 37 = .ok (.isub, 1) := by decide +kernel
theorem d_X8_isAhead_38 : decode cX8_isAhead 38 = .ok (.aload_n 0, 1) := by decide +kernel
theorem d_X8_isAhead_39 : decode cX8_isAhead 39 = .ok (.iload_n 1, 1) := by decide +kernel
theorem d_X8_isAhead_40 : decode cX8_isAhead 40 = .ok (.iconst 2, 1) := by decide +kernel
theorem d_X8_isAhead_41 : decode cX8_isAhead 41 = .ok (.invokevirtual 109, 3) := by decide +kernel
theorem d_X8_isAhead_44 : decode cX8_isAhead 44 = .ok (.iadd, 1) := by decide +kernel
theorem d_X8_isAhead_45 : decode cX8_isAhead 45 = .ok (.goto 4, 3) := by decide +kernel
theorem d_X8_isAhead_48 : decode cX8_isAhead 48 = .ok (.iload_n 3, 1) := by decide +kernel
theorem d_X8_isAhead_49 : decode cX8_isAhead 49 = .ok (.istore_n 3, 1) := by decide +kernel
theorem d_X8_isAhead_50 : decode cX8_isAhead 50 = .ok (.iload_n 3, 1) := by decide +kernel
theorem d_X8_isAhead_51 : decode cX8_isAhead 51 = .ok (.ifCond .lt 12, 3) := by decide +kernel
theorem d_X8_isAhead_54 : decode cX8_isAhead 54 = .ok (.iload_n 3, 1) := by decide +kernel
theorem d_X8_isAhead_55 : decode cX8_isAhead 55 = .ok (.ifCond .ne 12, 3) := by decide +kernel
theorem d_X8_isAhead_58 : decode cX8_isAhead 58 = .ok (.iload_n 1, 1) := by decide +kernel
theorem d_X8_isAhead_59 : decode cX8_isAhead 59 = .ok (.iload_n 2, 1) := by decide +kernel
theorem d_X8_isAhead_60 : decode cX8_isAhead 60 = .ok (.if_icmp .ge 7, 3) := by decide +kernel
theorem d_X8_isAhead_63 : decode cX8_isAhead 63 = .ok (.iconst 1, 1) := by decide +kernel
theorem d_X8_isAhead_64 : decode cX8_isAhead 64 = .ok (.goto 4, 3) := by decide +kernel
theorem d_X8_isAhead_67 : decode cX8_isAhead 67 = .ok (.iconst 0, 1) := by decide +kernel
theorem d_X8_isAhead_68 : decode cX8_isAhead 68 = .ok (.ireturn, 1) := by decide +kernel
theorem d_X8_waiting_0 : decode cX8_waiting 0 = .ok (.iconst 0, 1) := by decide +kernel
theorem d_X8_waiting_1 : decode cX8_waiting 1 = .ok (.istore_n 2, 1) := by decide +kernel
theorem d_X8_waiting_2 : decode cX8_waiting 2 = .ok (.iconst (-1), 1) := by decide +kernel
theorem d_X8_waiting_3 : decode cX8_waiting 3 = .ok (.istore_n 3, 1) := by decide +kernel
theorem d_X8_waiting_4 : decode cX8_waiting 4 = .ok (.iconst 0, 1) := by decide +kernel
theorem d_X8_waiting_5 : decode cX8_waiting 5 = .ok (.istore 4, 2) := by decide +kernel
theorem d_X8_waiting_7 : decode cX8_waiting 7 = .ok (.iload 4, 2) := by decide +kernel
theorem d_X8_waiting_9 : decode cX8_waiting 9 = .ok (.aload_n 0, 1) := by decide +kernel
theorem d_X8_waiting_10 : decode cX8_waiting 10 = .ok (.getfield 9, 3) := by decide +kernel
theorem d_X8_waiting_13 : decode cX8_waiting 13 = .ok (.iconst 4, 1) := by decide +kernel
theorem d_X8_waiting_14 : decode cX8_waiting 14 = .ok (.iaload, 1) := by decide +kernel
theorem d_X8_waiting_15 : decode cX8_waiting 15 = .ok (.if_icmp .ge 90, 3) := by decide +kernel
theorem d_X8_waiting_18 : decode cX8_waiting 18 = .ok (.aload_n 0, 1) := by decide +kernel
theorem d_X8_waiting_19 : decode cX8_waiting 19 = .ok (.iload 4, 2) := by decide +kernel
theorem d_X8_waiting_21 : decode cX8_waiting 21 = .ok (.invokevirtual 115, 3) := by decide +kernel
theorem d_X8_waiting_24 : decode cX8_waiting 24 = .ok (.ifCond .eq 6, 3) := by decide +kernel
theorem d_X8_waiting_27 : decode cX8_waiting 27 = .ok (.goto 72, 3) := by decide +kernel
theorem d_X8_waiting_30 : decode cX8_waiting 30 = .ok (.iconst 0, 1) := by decide +kernel
theorem d_X8_waiting_31 : decode cX8_waiting 31 = .ok (.istore 5, 2) := by decide +kernel
theorem d_X8_waiting_33 : decode cX8_waiting 33 = .ok (.iconst 0, 1) := by decide +kernel
theorem d_X8_waiting_34 : decode cX8_waiting 34 = .ok (.istore 6, 2) := by decide +kernel
theorem d_X8_waiting_36 : decode cX8_waiting 36 = .ok (.iload 6, 2) := by decide +kernel
theorem d_X8_waiting_38 : decode cX8_waiting 38 = .ok (.aload_n 0, 1) := by decide +kernel
theorem d_X8_waiting_39 : decode cX8_waiting 39 = .ok (.getfield 9, 3) := by decide +kernel
theorem d_X8_waiting_42 : decode cX8_waiting 42 = .ok (.iconst 4, 1) := by decide +kernel
theorem d_X8_waiting_43 : decode cX8_waiting 43 = .ok (.iaload, 1) := by decide +kernel
theorem d_X8_waiting_44 : decode cX8_waiting 44 = .ok (.if_icmp .ge 39, 3) := by decide +kernel
theorem d_X8_waiting_47 : decode cX8_waiting 47 = .ok (.iload 5, 2) := by decide +kernel
theorem d_X8_waiting_49 : decode cX8_waiting 49 = .ok (.aload_n 0, 1) := by decide +kernel
theorem d_X8_waiting_50 : decode cX8_waiting 50 = .ok (.iload 6, 2) := by decide +kernel
theorem d_X8_waiting_52 : decode cX8_waiting 52 = .ok (.invokevirtual 115, 3) := by decide +kernel
theorem d_X8_waiting_55 : decode cX8_waiting 55 = .ok (.ifCond .ne 18, 3) := by decide +kernel
theorem d_X8_waiting_58 : decode cX8_waiting 58 = .ok (.aload_n 0, 1) := by decide +kernel
theorem d_X8_waiting_59 : decode cX8_waiting 59 = .ok (.iload 6, 2) := by decide +kernel
theorem d_X8_waiting_61 : decode cX8_waiting 61 = .ok (.iload 4, 2) := by decide +kernel
theorem d_X8_waiting_63 : decode cX8_waiting 63 = .ok (.invokevirtual 182, 3) := by decide +kernel
theorem d_X8_waiting_66 : decode cX8_waiting 66 = .ok (.ifCond .eq 7, 3) := by decide +kernel
theorem d_X8_waiting_69 : decode cX8_waiting 69 = .ok (.iconst 1, 1) := by decide +kernel
theorem d_X8_waiting_70 : decode cX8_waiting 70 = .ok (.goto 4, 3) := by decide +kernel
theorem d_X8_waiting_73 : decode cX8_waiting 73 = .ok (.iconst 0, 1) := by decide +kernel
theorem d_X8_waiting_74 : decode cX8_waiting 74 = .ok (.iadd, 1) := by decide +kernel
theorem d_X8_waiting_75 : decode cX8_waiting 75 = .ok (.istore 5, 2) := by decide +kernel
theorem d_X8_waiting_77 : decode cX8_waiting 77 = .ok (.iinc 6 1, 3) := by decide +kernel
theorem d_X8_waiting_80 : decode cX8_waiting 80 = .ok (.goto (-44), 3) := by decide +kernel
theorem d_X8_waiting_83 : decode cX8_waiting 83 = .ok (.iload 5, 2) := by decide +kernel
theorem d_X8_waiting_85 : decode cX8_waiting 85 = .ok (.iload_n 1, 1) := by decide +kernel
theorem d_X8_waiting_86 : decode cX8_waiting 86 = .ok (.if_icmp .ne 8, 3) := by decide +kernel
theorem d_X8_waiting_89 : decode cX8_waiting 89 = .ok (.iload 4, 2) := by decide +kernel
theorem d_X8_waiting_91 : decode cX8_waiting 91 = .ok (.goto 4, 3) := by decide +kernel
theorem d_X8_waiting_94 : decode cX8_waiting 94 = .ok (.iload_n 3, 1) := by decide +kernel
theorem d_X8_waiting_95 : decode cX8_waiting 95 = .ok (.istore_n 3, 1) := by decide +kernel
theorem d_X8_waiting_96 : decode cX8_waiting 96 = .ok (.iinc 2 1, 3) := by decide +kernel
theorem d_X8_waiting_99 : decode cX8_waiting 99 = .ok (.iinc 4 1, 3) := by decide +kernel
theorem d_X8_waiting_102 : decode cX8_waiting 102 = .ok (.goto (-95), 3) := by decide +kernel
theorem d_X8_waiting_105 : decode cX8_waiting 105 = .ok (.aload_n 0, 1) := by decide +kernel
theorem d_X8_waiting_106 : decode cX8_waiting 106 = .ok (.iload_n 1, 1) := by decide +kernel
theorem d_X8_waiting_107 : decode cX8_waiting 107 = .ok (.iconst (-1), 1) := by decide +kernel
theorem d_X8_waiting_108 : decode cX8_waiting 108 = .ok (.iload_n 2, 1) := by decide +kernel
theorem d_X8_waiting_109 : decode cX8_waiting 109 = .ok (.iconst 1, 1) := by decide +kernel
theorem d_X8_waiting_110 : decode cX8_waiting 110 = .ok (.isub, 1) := by decide +kernel
theorem d_X8_waiting_111 : decode cX8_waiting 111 = .ok (.invokestatic 71, 3) := by decide +kernel
theorem d_X8_waiting_114 : decode cX8_waiting 114 = .ok (.ifCond .eq 7, 3) := by decide +kernel
theorem d_X8_waiting_117 : decode cX8_waiting 117 = .ok (.iconst 0, 1) := by decide +kernel
theorem d_X8_waiting_118 : decode cX8_waiting 118 = .ok (.goto 4, 3) := by decide +kernel
theorem d_X8_waiting_121 : decode cX8_waiting 121 = .ok (.iconst 1, 1) := by decide +kernel
theorem d_X8_waiting_122 : decode cX8_waiting 122 = .ok (.putfield 49, 3) := by decide +kernel
theorem d_X8_waiting_125 : decode cX8_waiting 125 = .ok (.aload_n 0, 1) := by decide +kernel
theorem d_X8_waiting_126 : decode cX8_waiting 126 = .ok (.getfield 49, 3) := by decide +kernel
theorem d_X8_waiting_129 : decode cX8_waiting 129 = .ok (.ifCond .le 7, 3) := by decide +kernel
theorem d_X8_waiting_132 : decode cX8_waiting 132 = .ok (.iconst 0, 1) := by decide +kernel
theorem d_X8_waiting_133 : decode cX8_waiting 133 = .ok (.goto 12, 3) := by decide +kernel
theorem d_X8_waiting_136 : decode cX8_waiting 136 = .ok (.iload_n 1, 1) := by decide +kernel
theorem d_X8_waiting_137 : decode cX8_waiting 137 = .ok (.ifCond .ge 7, 3) := by decide +kernel
theorem d_X8_waiting_140 : decode cX8_waiting 140 = .ok (.iload_n 2, 1) := by decide +kernel
theorem d_X8_waiting_141 : decode cX8_waiting 141 = .ok (.goto 4, 3) := by decide +kernel
theorem d_X8_waiting_144 : decode cX8_waiting 144 = .ok (.iload_n 3, 1) := by decide +kernel
theorem d_X8_waiting_145 : decode cX8_waiting 145 = .ok (.ireturn, 1) := by decide +kernel
theorem d_X8_suited_0 : decode cX8_suited 0 = .ok (.aload_n 0, 1) := by decide +kernel
theorem d_X8_suited_1 : decode cX8_suited 1 = .ok (.aload_n 0, 1) := by decide +kernel
theorem d_X8_suited_2 : decode cX8_suited 2 = .ok (.iload_n 1, 1) := by decide +kernel
theorem d_X8_suited_3 : decode cX8_suited 3 = .ok (.invokevirtual 112, 3) := by decide +kernel
theorem d_X8_suited_6 : decode cX8_suited 6 = .ok (.ifCond .eq 7, 3) := by decide +kernel
theorem d_X8_suited_9 : decode cX8_suited 9 = .ok (.iconst 0, 1) := by decide +kernel
theorem d_X8_suited_10 : decode cX8_suited 10 = .ok (.goto 4, 3) := by decide +kernel
theorem d_X8_suited_13 : decode cX8_suited 13 = .ok (.iconst 1, 1) := by decide +kernel
theorem d_X8_suited_14 : decode cX8_suited 14 = .ok (.putfield 49, 3) := by decide +kernel
theorem d_X8_suited_17 : decode cX8_suited 17 = .ok (.aload_n 0, 1) := by decide +kernel
theorem d_X8_suited_18 : decode cX8_suited 18 = .ok (.getfield 49, 3) := by decide +kernel
theorem d_X8_suited_21 : decode cX8_suited 21 = .ok (.ifCond .le 5, 3) := by decide +kernel
theorem d_X8_suited_24 : decode cX8_suited 24 = .ok (.iconst 0, 1) := by decide +kernel
theorem d_X8_suited_25 : decode cX8_suited 25 = .ok (.ireturn, 1) := by decide +kernel
theorem d_X8_suited_26 : decode cX8_suited 26 = .ok (.iconst (-1), 1) := by decide +kernel
theorem d_X8_suited_27 : decode cX8_suited 27 = .ok (.istore_n 2, 1) := by decide +kernel
theorem d_X8_suited_28 : decode cX8_suited 28 = .ok (.iconst 0, 1) := by decide +kernel
theorem d_X8_suited_29 : decode cX8_suited 29 = .ok (.istore_n 3, 1) := by decide +kernel
theorem d_X8_suited_30 : decode cX8_suited 30 = .ok (.iconst 0, 1) := by decide +kernel
theorem d_X8_suited_31 : decode cX8_suited 31 = .ok (.istore 4, 2) := by decide +kernel
theorem d_X8_suited_33 : decode cX8_suited 33 = .ok (.iload 4, 2) := by decide +kernel
theorem d_X8_suited_35 : decode cX8_suited 35 = .ok (.aload_n 0, 1) := by decide +kernel
theorem d_X8_suited_36 : decode cX8_suited 36 = .ok (.getfield 9, 3) := by decide +kernel
theorem d_X8_suited_39 : decode cX8_suited 39 = .ok (.iconst 3, 1) := by decide +kernel
theorem d_X8_suited_40 : decode cX8_suited 40 = .ok (.iaload, 1) := by decide +kernel
theorem d_X8_suited_41 : decode cX8_suited 41 = .ok (.if_icmp .ge 85, 3) := by decide +kernel
theorem d_X8_suited_44 : decode cX8_suited 44 = .ok (.aload_n 0, 1) := by decide +kernel
theorem d_X8_suited_45 : decode cX8_suited 45 = .ok (.iload 4, 2) := by decide +kernel
theorem d_X8_suited_47 : decode cX8_suited 47 = .ok (.iconst 2, 1) := by decide +kernel
theorem d_X8_suited_48 : decode cX8_suited 48 = .ok (.invokevirtual 79, 3) := by decide +kernel
theorem d_X8_suited_51 : decode cX8_suited 51 = .ok (.ifCond .lt 7, 3) := by decide +kernel
theorem d_X8_suited_54 : decode cX8_suited 54 = .ok (.iconst (-1), 1) := by decide +kernel
theorem d_X8_suited_55 : decode cX8_suited 55 = .ok (.goto 20, 3) := by decide +kernel
theorem d_X8_suited_58 : decode cX8_suited 58 = .ok (.aload_n 0, 1) := by decide +kernel
theorem d_X8_suited_59 : decode cX8_suited 59 = .ok (.aload_n 0, 1) := by decide +kernel
theorem d_X8_suited_60 : decode cX8_suited 60 = .ok (.iload 4, 2) := by decide +kernel
theorem d_X8_suited_62 : decode cX8_suited 62 = .ok (.iconst 0, 1) := by decide +kernel
theorem d_X8_suited_63 : decode cX8_suited 63 = .ok (.invokevirtual 79, 3) := by decide +kernel
theorem d_X8_suited_66 : decode cX8_suited 66 = .ok (.aload_n 0, 1) := by decide +kernel
theorem d_X8_suited_67 : decode cX8_suited 67 = .ok (.iload_n 1, 1) := by decide +kernel
theorem d_X8_suited_68 : decode cX8_suited 68 = .ok (.iconst 5, 1) := by decide +kernel
theorem d_X8_suited_69 : decode cX8_suited 69 = .ok (.invokevirtual 109, 3) := by decide +kernel
theorem d_X8_suited_72 : decode cX8_suited 72 = .ok (.invokevirtual 165, 3) := by decide +kernel
theorem d_X8_suited_75 : decode cX8_suited 75 = .ok (.istore 5, 2) := by decide +kernel
theorem d_X8_suited_77 : decode cX8_suited 77 = .ok (.iload 5, 2) := by decide +kernel
theorem d_X8_suited_79 : decode cX8_suited 79 = .ok (.ifCond .lt 41, 3) := by decide +kernel
theorem d_X8_suited_82 : decode cX8_suited 82 = .ok (.iload_n 2, 1) := by decide +kernel
theorem d_X8_suited_83 : decode cX8_suited 83 = .ok (.ifCond .lt 31, 3) := by decide +kernel
theorem d_X8_suited_86 : decode cX8_suited 86 = .ok (.iload 5, 2) := by decide +kernel
theorem d_X8_suited_88 : decode cX8_suited 88 = .ok (.iload_n 3, 1) := by decide +kernel
theorem d_X8_suited_89 : decode cX8_suited 89 = .ok (.if_icmp .lt 25, 3) := by decide +kernel
theorem d_X8_suited_92 : decode cX8_suited 92 = .ok (.iload 5, 2) := by decide +kernel
theorem d_X8_suited_94 : decode cX8_suited 94 = .ok (.iload_n 3, 1) := by decide +kernel
theorem d_X8_suited_95 : decode cX8_suited 95 = .ok (.if_icmp .ne 25, 3) := by decide +kernel
theorem d_X8_suited_98 : decode cX8_suited 98 = .ok (.aload_n 0, 1) := by decide +kernel
theorem d_X8_suited_99 : decode cX8_suited 99 = .ok (.iload 4, 2) := by decide +kernel
theorem d_X8_suited_101 : decode cX8_suited 101 = .ok (.iconst 1, 1) := by decide +kernel
theorem d_X8_suited_102 : decode cX8_suited 102 = .ok (.invokevirtual 79, 3) := by decide +kernel
theorem d_X8_suited_105 : decode cX8_suited 105 = .ok (.aload_n 0, 1) := by decide +kernel
theorem d_X8_suited_106 : decode cX8_suited 106 = .ok (.iload_n 2, 1) := by decide +kernel
theorem d_X8_suited_107 : decode cX8_suited 107 = .ok (.iconst 1, 1) := by decide +kernel
theorem d_X8_suited_108 : decode cX8_suited 108 = .ok (.invokevirtual 79, 3) := by decide +kernel
theorem d_X8_suited_111 : decode cX8_suited 111 = .ok (.if_icmp .le 9, 3) := by decide +kernel
theorem d_X8_suited_114 : decode cX8_suited 114 = .ok (.iload 4, 2) := by decide +kernel
theorem d_X8_suited_116 : decode cX8_suited 116 = .ok (.istore_n 2, 1) := by decide +kernel
theorem d_X8_suited_117 : decode cX8_suited 117 = .ok (.iload 5, 2) := by decide +kernel
theorem d_X8_suited_119 : decode cX8_suited 119 = .ok (.istore_n 3, 1) := by decide +kernel
theorem d_X8_suited_120 : decode cX8_suited 120 = .ok (.iinc 4 1, 3) := by decide +kernel
theorem d_X8_suited_123 : decode cX8_suited 123 = .ok (.goto (-90), 3) := by decide +kernel
theorem d_X8_suited_126 : decode cX8_suited 126 = .ok (.aload_n 0, 1) := by decide +kernel
theorem d_X8_suited_127 : decode cX8_suited 127 = .ok (.iload_n 2, 1) := by decide +kernel
theorem d_X8_suited_128 : decode cX8_suited 128 = .ok (.ifCond .ge 7, 3) := by decide +kernel
theorem d_X8_suited_131 : decode cX8_suited 131 = .ok (.iconst 2, 1) := by decide +kernel
theorem d_X8_suited_132 : decode cX8_suited 132 = .ok (.goto 4, 3) := by decide +kernel
theorem d_X8_suited_135 : decode cX8_suited 135 = .ok (.iconst 0, 1) := by decide +kernel
theorem d_X8_suited_136 : decode cX8_suited 136 = .ok (.putfield 49, 3) := by decide +kernel
theorem d_X8_suited_139 : decode cX8_suited 139 = .ok (.aload_n 0, 1) := by decide +kernel
theorem d_X8_suited_140 : decode cX8_suited 140 = .ok (.getfield 49, 3) := by decide +kernel
theorem d_X8_suited_143 : decode cX8_suited 143 = .ok (.ifCond .le 7, 3) := by decide +kernel
theorem d_X8_suited_146 : decode cX8_suited 146 = .ok (.iconst 0, 1) := by decide +kernel
theorem d_X8_suited_147 : decode cX8_suited 147 = .ok (.goto 4, 3) := by decide +kernel
theorem d_X8_suited_150 : decode cX8_suited 150 = .ok (.iload_n 2, 1) := by decide +kernel
theorem d_X8_suited_151 : decode cX8_suited 151 = .ok (.ireturn, 1) := by decide +kernel
theorem d_X8_tour_0 : decode cX8_tour 0 = .ok (.aload_n 0, 1) := by decide +kernel
theorem d_X8_tour_1 : decode cX8_tour 1 = .ok (.aload_n 0, 1) := by decide +kernel
theorem d_X8_tour_2 : decode cX8_tour 2 = .ok (.iload_n 1, 1) := by decide +kernel
theorem d_X8_tour_3 : decode cX8_tour 3 = .ok (.invokevirtual 112, 3) := by decide +kernel
theorem d_X8_tour_6 : decode cX8_tour 6 = .ok (.ifCond .eq 7, 3) := by decide +kernel
theorem d_X8_tour_9 : decode cX8_tour 9 = .ok (.iconst 0, 1) := by decide +kernel
theorem d_X8_tour_10 : decode cX8_tour 10 = .ok (.goto 4, 3) := by decide +kernel
theorem d_X8_tour_13 : decode cX8_tour 13 = .ok (.iconst 1, 1) := by decide +kernel
theorem d_X8_tour_14 : decode cX8_tour 14 = .ok (.putfield 49, 3) := by decide +kernel
theorem d_X8_tour_17 : decode cX8_tour 17 = .ok (.aload_n 0, 1) := by decide +kernel
theorem d_X8_tour_18 : decode cX8_tour 18 = .ok (.getfield 49, 3) := by decide +kernel
theorem d_X8_tour_21 : decode cX8_tour 21 = .ok (.ifCond .le 5, 3) := by decide +kernel
theorem d_X8_tour_24 : decode cX8_tour 24 = .ok (.iconst 0, 1) := by decide +kernel
theorem d_X8_tour_25 : decode cX8_tour 25 = .ok (.ireturn, 1) := by decide +kernel
theorem d_X8_tour_26 : decode cX8_tour 26 = .ok (.iconst 0, 1) := by decide +kernel
theorem d_X8_tour_27 : decode cX8_tour 27 = .ok (.istore_n 2, 1) := by decide +kernel
theorem d_X8_tour_28 : decode cX8_tour 28 = .ok (.aload_n 0, 1) := by decide +kernel
theorem d_X8_tour_29 : decode cX8_tour 29 = .ok (.iload_n 1, 1) := by decide +kernel
theorem d_X8_tour_30 : decode cX8_tour 30 = .ok (.iconst 5, 1) := by decide +kernel
theorem d_X8_tour_31 : decode cX8_tour 31 = .ok (.invokevirtual 109, 3) := by decide +kernel
theorem d_X8_tour_34 : decode cX8_tour 34 = .ok (.istore_n 3, 1) := by decide +kernel
theorem d_X8_tour_35 : decode cX8_tour 35 = .ok (.iconst 1, 1) := by decide +kernel
theorem d_X8_tour_36 : decode cX8_tour 36 = .ok (.istore 4, 2) := by decide +kernel
theorem d_X8_tour_38 : decode cX8_tour 38 = .ok (.iconst 1, 1) := by decide +kernel
theorem d_X8_tour_39 : decode cX8_tour 39 = .ok (.istore 5, 2) := by decide +kernel
theorem d_X8_tour_41 : decode cX8_tour 41 = .ok (.iload 5, 2) := by decide +kernel
theorem d_X8_tour_43 : decode cX8_tour 43 = .ok (.aload_n 0, 1) := by decide +kernel
theorem d_X8_tour_44 : decode cX8_tour 44 = .ok (.iload_n 1, 1) := by decide +kernel
theorem d_X8_tour_45 : decode cX8_tour 45 = .ok (.iconst 1, 1) := by decide +kernel
theorem d_X8_tour_46 : decode cX8_tour 46 = .ok (.invokevirtual 109, 3) := by decide +kernel
theorem d_X8_tour_49 : decode cX8_tour 49 = .ok (.if_icmp .ge 57, 3) := by decide +kernel
theorem d_X8_tour_52 : decode cX8_tour 52 = .ok (.aload_n 0, 1) := by decide +kernel
theorem d_X8_tour_53 : decode cX8_tour 53 = .ok (.iload_n 3, 1) := by decide +kernel
theorem d_X8_tour_54 : decode cX8_tour 54 = .ok (.aload_n 0, 1) := by decide +kernel
theorem d_X8_tour_55 : decode cX8_tour 55 = .ok (.iload_n 1, 1) := by decide +kernel
theorem d_X8_tour_56 : decode cX8_tour 56 = .ok (.iconst 5, 1) := by decide +kernel
theorem d_X8_tour_57 : decode cX8_tour 57 = .ok (.iload 5, 2) := by decide +kernel
theorem d_X8_tour_59 : decode cX8_tour 59 = .ok (.iadd, 1) := by decide +kernel
theorem d_X8_tour_60 : decode cX8_tour 60 = .ok (.invokevirtual 109, 3) := by decide +kernel
theorem d_X8_tour_63 : decode cX8_tour 63 = .ok (.invokevirtual 165, 3) := by decide +kernel
theorem d_X8_tour_66 : decode cX8_tour 66 = .ok (.istore 6, 2) := by decide +kernel
theorem d_X8_tour_68 : decode cX8_tour 68 = .ok (.iload 4, 2) := by decide +kernel
theorem d_X8_tour_70 : decode cX8_tour 70 = .ok (.ifCond .eq 12, 3) := by decide +kernel
theorem d_X8_tour_73 : decode cX8_tour 73 = .ok (.iload 6, 2) := by decide +kernel
theorem d_X8_tour_75 : decode cX8_tour 75 = .ok (.ifCond .lt 7, 3) := by decide +kernel
theorem d_X8_tour_78 : decode cX8_tour 78 = .ok (.iconst 1, 1) := by decide +kernel
theorem d_X8_tour_79 : decode cX8_tour 79 = .ok (.goto 4, 3) := by decide +kernel
theorem d_X8_tour_82 : decode cX8_tour 82 = .ok (.iconst 0, 1) := by decide +kernel
theorem d_X8_tour_83 : decode cX8_tour 83 = .ok (.istore 4, 2) := by decide +kernel
theorem d_X8_tour_85 : decode cX8_tour 85 = .ok (.iload_n 2, 1) := by decide +kernel
theorem d_X8_tour_86 : decode cX8_tour 86 = .ok (.iload 6, 2) := by decide +kernel
theorem d_X8_tour_88 : decode cX8_tour 88 = .ok (.iadd, 1) := by decide +kernel
theorem d_X8_tour_89 : decode cX8_tour 89 = .ok (.istore_n 2, 1) := by decide +kernel
theorem d_X8_tour_90 : decode cX8_tour 90 = .ok (.aload_n 0, 1) := by decide +kernel
theorem d_X8_tour_91 : decode cX8_tour 91 = .ok (.iload_n 1, 1) := by decide +kernel
theorem d_X8_tour_92 : decode cX8_tour 92 = .ok (.iconst 5, 1) := by decide +kernel
theorem d_X8_tour_93 : decode cX8_tour 93 = .ok (.iload 5, 2) := by decide +kernel
theorem d_X8_tour_95 : decode cX8_tour 95 = .ok (.iadd, 1) := by decide +kernel
theorem d_X8_tour_96 : decode cX8_tour 96 = .ok (.invokevirtual 109, 3) := by decide +kernel
theorem d_X8_tour_99 : decode cX8_tour 99 = .ok (.istore_n 3, 1) := by decide +kernel
theorem d_X8_tour_100 : decode cX8_tour 100 = .ok (.iinc 5 1, 3) := by decide +kernel
theorem d_X8_tour_103 : decode cX8_tour 103 = .ok (.goto (-62), 3) := by decide +kernel
theorem d_X8_tour_106 : decode cX8_tour 106 = .ok (.aload_n 0, 1) := by decide +kernel
theorem d_X8_tour_107 : decode cX8_tour 107 = .ok (.iload_n 3, 1) := by decide +kernel
theorem d_X8_tour_108 : decode cX8_tour 108 = .ok (.invokevirtual 162, 3) := by decide +kernel
theorem d_X8_tour_111 : decode cX8_tour 111 = .ok (.iconst (-1), 1) := by decide +kernel
theorem d_X8_tour_112 : decode cX8_tour 112 = .ok (.istore 5, 2) := by decide +kernel
theorem d_X8_tour_114 : decode cX8_tour 114 = .ok (.iconst 0, 1) := by decide +kernel
theorem d_X8_tour_115 : decode cX8_tour 115 = .ok (.istore 6, 2) := by decide +kernel
theorem d_X8_tour_117 : decode cX8_tour 117 = .ok (.iload 6, 2) := by decide +kernel
theorem d_X8_tour_119 : decode cX8_tour 119 = .ok (.aload_n 0, 1) := by decide +kernel
theorem d_X8_tour_120 : decode cX8_tour 120 = .ok (.invokevirtual 67, 3) := by decide +kernel
theorem d_X8_tour_123 : decode cX8_tour 123 = .ok (.if_icmp .ge 76, 3) := by decide +kernel
theorem d_X8_tour_126 : decode cX8_tour 126 = .ok (.aload_n 0, 1) := by decide +kernel
theorem d_X8_tour_127 : decode cX8_tour 127 = .ok (.getfield 9, 3) := by decide +kernel
theorem d_X8_tour_130 : decode cX8_tour 130 = .ok (.bipush 8, 2) := by decide +kernel
theorem d_X8_tour_132 : decode cX8_tour 132 = .ok (.iload 6, 2) := by decide +kernel
theorem d_X8_tour_134 : decode cX8_tour 134 = .ok (.iadd, 1) := by decide +kernel
theorem d_X8_tour_135 : decode cX8_tour 135 = .ok (.iaload, 1) := by decide +kernel
theorem d_X8_tour_136 : decode cX8_tour 136 = .ok (.iconst 3, 1) := by decide +kernel
theorem d_X8_tour_137 : decode cX8_tour 137 = .ok (.if_icmp .ne 17, 3) := by decide +kernel
theorem d_X8_tour_140 : decode cX8_tour 140 = .ok (.aload_n 0, 1) := by decide +kernel
theorem d_X8_tour_141 : decode cX8_tour 141 = .ok (.getfield 32, 3) := by decide +kernel
theorem d_X8_tour_144 : decode cX8_tour 144 = .ok (.iload 6, 2) := by decide +kernel
theorem d_X8_tour_146 : decode cX8_tour 146 = .ok (.iaload, 1) := by decide +kernel
theorem d_X8_tour_147 : decode cX8_tour 147 = .ok (.ifCond .lt 7, 3) := by decide +kernel
theorem d_X8_tour_150 : decode cX8_tour 150 = .ok (.iconst 1, 1) := by decide +kernel
theorem d_X8_tour_151 : decode cX8_tour 151 = .ok (.goto 4, 3) := by decide +kernel
theorem d_X8_tour_154 : decode cX8_tour 154 = .ok (.iconst 0, 1) := by decide +kernel
theorem d_X8_tour_155 : decode cX8_tour 155 = .ok (.istore 7, 2) := by decide +kernel
theorem d_X8_tour_157 : decode cX8_tour 157 = .ok (.iload 7, 2) := by decide +kernel
theorem d_X8_tour_159 : decode cX8_tour 159 = .ok (.ifCond .eq 30, 3) := by decide +kernel
theorem d_X8_tour_162 : decode cX8_tour 162 = .ok (.iload 5, 2) := by decide +kernel
theorem d_X8_tour_164 : decode cX8_tour 164 = .ok (.ifCond .lt 15, 3) := by decide +kernel
theorem d_X8_tour_167 : decode cX8_tour 167 = .ok (.aload_n 0, 1) := by decide +kernel
theorem d_X8_tour_168 : decode cX8_tour 168 = .ok (.getfield 32, 3) := by decide +kernel
theorem d_X8_tour_171 : decode cX8_tour 171 = .ok (.iload 6, 2) := by decide +kernel
theorem d_X8_tour_173 : decode cX8_tour 173 = .ok (.iaload, 1) := by decide +kernel
theorem d_X8_tour_174 : decode cX8_tour 174 = .ok (.iload 5, 2) := by decide +kernel
theorem d_X8_tour_176 : decode cX8_tour 176 = .ok (.if_icmp .ge 13, 3) := by decide +kernel
theorem d_X8_tour_179 : decode cX8_tour 179 = .ok (.aload_n 0, 1) := by decide +kernel
theorem d_X8_tour_180 : decode cX8_tour 180 = .ok (.getfield 32, 3) := by decide +kernel
theorem d_X8_tour_183 : decode cX8_tour 183 = .ok (.iload 6, 2) := by decide +kernel
theorem d_X8_tour_185 : decode cX8_tour 185 = .ok (.iaload, 1) := by decide +kernel
theorem d_X8_tour_186 : decode cX8_tour 186 = .ok (.goto 5, 3) := by decide +kernel
theorem d_X8_tour_189 : decode cX8_tour 189 = .ok (.iload 5, 2) := by decide +kernel
theorem d_X8_tour_191 : decode cX8_tour 191 = .ok (.istore 5, 2) := by decide +kernel
theorem d_X8_tour_193 : decode cX8_tour 193 = .ok (.iinc 6 1, 3) := by decide +kernel
theorem d_X8_tour_196 : decode cX8_tour 196 = .ok (.goto (-79), 3) := by decide +kernel
theorem d_X8_tour_199 : decode cX8_tour 199 = .ok (.aload_n 0, 1) := by decide +kernel
theorem d_X8_tour_200 : decode cX8_tour 200 = .ok (.iload 4, 2) := by decide +kernel
theorem d_X8_tour_202 : decode cX8_tour 202 = .ok (.ifCond .eq 12, 3) := by decide +kernel
theorem d_X8_tour_205 : decode cX8_tour 205 = .ok (.iload 5, 2) := by decide +kernel
theorem d_X8_tour_207 : decode cX8_tour 207 = .ok (.ifCond .lt 7, 3) := by decide +kernel
theorem d_X8_tour_210 : decode cX8_tour 210 = .ok (.iconst 0, 1) := by decide +kernel
theorem d_X8_tour_211 : decode cX8_tour 211 = .ok (.goto 4, 3) := by decide +kernel
theorem d_X8_tour_214 : decode cX8_tour 214 = .ok (.iconst 2, 1) := by decide +kernel
theorem d_X8_tour_215 : decode cX8_tour 215 = .ok (.putfield 49, 3) := by decide +kernel
theorem d_X8_tour_218 : decode cX8_tour 218 = .ok (.aload_n 0, 1) := by decide +kernel
theorem d_X8_tour_219 : decode cX8_tour 219 = .ok (.getfield 49, 3) := by decide +kernel
theorem d_X8_tour_222 : decode cX8_tour 222 = .ok (.ifCond .le 7, 3) := by decide +kernel
theorem d_X8_tour_225 : decode cX8_tour 225 = .ok (.iconst 0, 1) := by decide +kernel
theorem d_X8_tour_226 : decode cX8_tour 226 = .ok (.goto 7, 3) := by decide +kernel
theorem d_X8_tour_229 : decode cX8_tour 229 = .ok (.iload_n 2, 1) := by decide +kernel
theorem d_X8_tour_230 : decode cX8_tour 230 = .ok (.iload 5, 2) := by decide +kernel
theorem d_X8_tour_232 : decode cX8_tour 232 = .ok (.iadd, 1) := by decide +kernel
theorem d_X8_tour_233 : decode cX8_tour 233 = .ok (.ireturn, 1) := by decide +kernel
theorem d_X8_loaded_0 : decode cX8_loaded 0 = .ok (.aload_n 0, 1) := by decide +kernel
theorem d_X8_loaded_1 : decode cX8_loaded 1 = .ok (.aload_n 0, 1) := by decide +kernel
theorem d_X8_loaded_2 : decode cX8_loaded 2 = .ok (.getfield 9, 3) := by decide +kernel
theorem d_X8_loaded_5 : decode cX8_loaded 5 = .ok (.iconst 3, 1) := by decide +kernel
theorem d_X8_loaded_6 : decode cX8_loaded 6 = .ok (.iaload, 1) := by decide +kernel
theorem d_X8_loaded_7 : decode cX8_loaded 7 = .ok (.ifCond .ne 7, 3) := by decide +kernel
theorem d_X8_loaded_10 : decode cX8_loaded 10 = .ok (.iconst 1, 1) := by decide +kernel
theorem d_X8_loaded_11 : decode cX8_loaded 11 = .ok (.goto 4, 3) := by decide +kernel
theorem d_X8_loaded_14 : decode cX8_loaded 14 = .ok (.iconst 0, 1) := by decide +kernel
theorem d_X8_loaded_15 : decode cX8_loaded 15 = .ok (.putfield 49, 3) := by decide +kernel
theorem d_X8_loaded_18 : decode cX8_loaded 18 = .ok (.aload_n 0, 1) := by decide +kernel
theorem d_X8_loaded_19 : decode cX8_loaded 19 = .ok (.getfield 49, 3) := by decide +kernel
theorem d_X8_loaded_22 : decode cX8_loaded 22 = .ok (.ifCond .le 5, 3) := by decide +kernel
theorem d_X8_loaded_25 : decode cX8_loaded 25 = .ok (.fconst 0, 1) := by decide +kernel
theorem d_X8_loaded_26 : decode cX8_loaded 26 = .ok (.freturn, 1) := by decide +kernel
theorem d_X8_loaded_27 : decode cX8_loaded 27 = .ok (.iconst 0, 1) := by decide +kernel
theorem d_X8_loaded_28 : decode cX8_loaded 28 = .ok (.istore_n 1, 1) := by decide +kernel
theorem d_X8_loaded_29 : decode cX8_loaded 29 = .ok (.iconst 0, 1) := by decide +kernel
theorem d_X8_loaded_30 : decode cX8_loaded 30 = .ok (.istore_n 2, 1) := by decide +kernel
theorem d_X8_loaded_31 : decode cX8_loaded 31 = .ok (.iload_n 2, 1) := by decide +kernel
theorem d_X8_loaded_32 : decode cX8_loaded 32 = .ok (.aload_n 0, 1) := by decide +kernel
theorem d_X8_loaded_33 : decode cX8_loaded 33 = .ok (.getfield 9, 3) := by decide +kernel
theorem d_X8_loaded_36 : decode cX8_loaded 36 = .ok (.iconst 3, 1) := by decide +kernel
theorem d_X8_loaded_37 : decode cX8_loaded 37 = .ok (.iaload, 1) := by decide +kernel
theorem d_X8_loaded_38 : decode cX8_loaded 38 = .ok (.if_icmp .ge 25, 3) := by decide +kernel
theorem d_X8_loaded_41 : decode cX8_loaded 41 = .ok (.iload_n 1, 1) := by decide +kernel
theorem d_X8_loaded_42 : decode cX8_loaded 42 = .ok (.aload_n 0, 1) := by decide +kernel
theorem d_X8_loaded_43 : decode cX8_loaded 43 = .ok (.iload_n 2, 1) := by decide +kernel
theorem d_X8_loaded_44 : decode cX8_loaded 44 = .ok (.invokevirtual 145, 3) := by decide +kernel
theorem d_X8_loaded_47 : decode cX8_loaded 47 = .ok (.ifCond .eq 7, 3) := by decide +kernel
theorem d_X8_loaded_50 : decode cX8_loaded 50 = .ok (.iconst 1, 1) := by decide +kernel
theorem d_X8_loaded_51 : decode cX8_loaded 51 = .ok (.goto 4, 3) := by decide +kernel
theorem d_X8_loaded_54 : decode cX8_loaded 54 = .ok (.iconst 0, 1) := by decide +kernel
theorem d_X8_loaded_55 : decode cX8_loaded 55 = .ok (.iadd, 1) := by decide +kernel
theorem d_X8_loaded_56 : decode cX8_loaded 56 = .ok (.istore_n 1, 1) := by decide +kernel
theorem d_X8_loaded_57 : decode cX8_loaded 57 = .ok (.iinc 2 1, 3) := by decide +kernel
theorem d_X8_loaded_60 : decode cX8_loaded 60 = .ok (.goto (-29), 3) := by decide +kernel
theorem d_X8_loaded_63 : decode cX8_loaded 63 = .ok (.iload_n 1, 1) := by decide +kernel
theorem d_X8_loaded_64 : decode cX8_loaded 64 = .ok (.i2f, 1) := by decide +kernel
theorem d_X8_loaded_65 : decode cX8_loaded 65 = .ok (.aload_n 0, 1) := by decide +kernel
theorem d_X8_loaded_66 : decode cX8_loaded 66 = .ok (.getfield 9, 3) := by decide +kernel
theorem d_X8_loaded_69 : decode cX8_loaded 69 = .ok (.iconst 3, 1) := by decide +kernel
theorem d_X8_loaded_70 : decode cX8_loaded 70 = .ok (.iaload, 1) := by decide +kernel
theorem d_X8_loaded_71 : decode cX8_loaded 71 = .ok (.i2f, 1) := by decide +kernel
theorem d_X8_loaded_72 : decode cX8_loaded 72 = .ok (.fdiv, 1) := by decide +kernel
theorem d_X8_loaded_73 : decode cX8_loaded 73 = .ok (.freturn, 1) := by decide +kernel
theorem d_X8_lateness_0 : decode cX8_lateness 0 = .ok (.iconst 0, 1) := by decide +kernel
theorem d_X8_lateness_1 : decode cX8_lateness 1 = .ok (.istore_n 1, 1) := by decide +kernel
theorem d_X8_lateness_2 : decode cX8_lateness 2 = .ok (.iconst 0, 1) := by decide +kernel
theorem d_X8_lateness_3 : decode cX8_lateness 3 = .ok (.istore_n 2, 1) := by decide +kernel
theorem d_X8_lateness_4 : decode cX8_lateness 4 = .ok (.iconst 0, 1) := by decide +kernel
theorem d_X8_lateness_5 : decode cX8_lateness 5 = .ok (.istore_n 3, 1) := by decide +kernel
theorem d_X8_lateness_6 : decode cX8_lateness 6 = .ok (.iload_n 3, 1) := by decide +kernel
theorem d_X8_lateness_7 : decode cX8_lateness 7 = .ok (.aload_n 0, 1) := by decide +kernel
theorem d_X8_lateness_8 : decode cX8_lateness 8 = .ok (.getfield 9, 3) := by decide +kernel
theorem d_X8_lateness_11 : decode cX8_lateness 11 = .ok (.iconst 4, 1) := by decide +kernel
theorem d_X8_lateness_12 : decode cX8_lateness 12 = .ok (.iaload, 1) := by decide +kernel
theorem d_X8_lateness_13 : decode cX8_lateness 13 = .ok (.if_icmp .ge 37, 3) := by decide +kernel
theorem d_X8_lateness_16 : decode cX8_lateness 16 = .ok (.aload_n 0, 1) := by decide +kernel
theorem d_X8_lateness_17 : decode cX8_lateness 17 = .ok (.iload_n 3, 1) := by decide +kernel
theorem d_X8_lateness_18 : decode cX8_lateness 18 = .ok (.invokevirtual 115, 3) := by decide +kernel
theorem d_X8_lateness_21 : decode cX8_lateness 21 = .ok (.iconst 2, 1) := by decide +kernel
theorem d_X8_lateness_22 : decode cX8_lateness 22 = .ok (.if_icmp .ne 22, 3) := by decide +kernel
theorem d_X8_lateness_25 : decode cX8_lateness 25 = .ok (.iload_n 1, 1) := by decide +kernel
theorem d_X8_lateness_26 : decode cX8_lateness 26 = .ok (.aload_n 0, 1) := by decide +kernel
theorem d_X8_lateness_27 : decode cX8_lateness 27 = .ok (.iload_n 3, 1) := by decide +kernel
theorem d_X8_lateness_28 : decode cX8_lateness 28 = .ok (.iconst 4, 1) := by decide +kernel
theorem d_X8_lateness_29 : decode cX8_lateness 29 = .ok (.invokevirtual 109, 3) := by decide +kernel
theorem d_X8_lateness_32 : decode cX8_lateness 32 = .ok (.aload_n 0, 1) := by decide +kernel
theorem d_X8_lateness_33 : decode cX8_lateness 33 = .ok (.iload_n 3, 1) := by decide +kernel
theorem d_X8_lateness_34 : decode cX8_lateness 34 = .ok (.iconst 0, 1) := by decide +kernel
theorem d_X8_lateness_35 : decode cX8_lateness 35 = .ok (.invokevirtual 109, 3) := by decide +kernel
theorem d_X8_lateness_38 : decode cX8_lateness 38 = .ok (.isub, 1) := by decide +kernel
theorem d_X8_lateness_39 : decode cX8_lateness 39 = .ok (.iadd, 1) := by decide +kernel
theorem d_X8_lateness_40 : decode cX8_lateness 40 = .ok (.istore_n 1, 1) := by decide +kernel
theorem d_X8_lateness_41 : decode cX8_lateness 41 = .ok (.iinc 2 1, 3) := by decide +kernel
theorem d_X8_lateness_44 : decode cX8_lateness 44 = .ok (.iinc 3 1, 3) := by decide +kernel
theorem d_X8_lateness_47 : decode cX8_lateness 47 = .ok (.goto (-41), 3) := by decide +kernel
theorem d_X8_lateness_50 : decode cX8_lateness 50 = .ok (.aload_n 0, 1) := by decide +kernel
theorem d_X8_lateness_51 : decode cX8_lateness 51 = .ok (.iload_n 2, 1) := by decide +kernel
theorem d_X8_lateness_52 : decode cX8_lateness 52 = .ok (.ifCond .ne 7, 3) := by decide +kernel
theorem d_X8_lateness_55 : decode cX8_lateness 55 = .ok (.iconst 1, 1) := by decide +kernel
theorem d_X8_lateness_56 : decode cX8_lateness 56 = .ok (.goto 4, 3) := by decide +kernel
theorem d_X8_lateness_59 : decode cX8_lateness 59 = .ok (.iconst 0, 1) := by decide +kernel
theorem d_X8_lateness_60 : decode cX8_lateness 60 = .ok (.putfield 49, 3) := by decide +kernel
theorem d_X8_lateness_63 : decode cX8_lateness 63 = .ok (.aload_n 0, 1) := by decide +kernel
theorem d_X8_lateness_64 : decode cX8_lateness 64 = .ok (.getfield 49, 3) := by decide +kernel
theorem d_X8_lateness_67 : decode cX8_lateness 67 = .ok (.ifCond .le 7, 3) := by decide +kernel
theorem d_X8_lateness_70 : decode cX8_lateness 70 = .ok (.dconst 0, 1) := by decide +kernel
theorem d_X8_lateness_71 : decode cX8_lateness 71 = .ok (.goto 8, 3) := by decide +kernel
theorem d_X8_lateness_74 : decode cX8_lateness 74 = .ok (.iload_n 1, 1) := by decide +kernel
theorem d_X8_lateness_75 : decode cX8_lateness 75 = .ok (.i2d, 1) := by decide +kernel
theorem d_X8_lateness_76 : decode cX8_lateness 76 = .ok (.iload_n 2, 1) := by decide +kernel
theorem d_X8_lateness_77 : decode cX8_lateness 77 = .ok (.i2d, 1) := by decide +kernel
theorem d_X8_lateness_78 : decode cX8_lateness 78 = .ok (.ddiv, 1) := by decide +kernel
theorem d_X8_lateness_79 : decode cX8_lateness 79 = .ok (.dreturn, 1) := by decide +kernel
theorem d_X8_reason_0 : decode cX8_reason 0 = .ok (.aload_n 0, 1) := by decide +kernel
theorem d_X8_reason_1 : decode cX8_reason 1 = .ok (.aload_n 0, 1) := by decide +kernel
theorem d_X8_reason_2 : decode cX8_reason 2 = .ok (.getfield 61, 3) := by decide +kernel
theorem d_X8_reason_5 : decode cX8_reason 5 = .ok (.ifCond .ne 7, 3) := by decide +kernel
theorem d_X8_reason_8 : decode cX8_reason 8 = .ok (.iconst 1, 1) := by decide +kernel
theorem d_X8_reason_9 : decode cX8_reason 9 = .ok (.goto 4, 3) := by decide +kernel
theorem d_X8_reason_12 : decode cX8_reason 12 = .ok (.iconst 0, 1) := by decide +kernel
theorem d_X8_reason_13 : decode cX8_reason 13 = .ok (.putfield 49, 3) := by decide +kernel
theorem d_X8_reason_16 : decode cX8_reason 16 = .ok (.aload_n 0, 1) := by decide +kernel
theorem d_X8_reason_17 : decode cX8_reason 17 = .ok (.getfield 49, 3) := by decide +kernel
theorem d_X8_reason_20 : decode cX8_reason 20 = .ok (.ifCond .le 7, 3) := by decide +kernel
theorem d_X8_reason_23 : decode cX8_reason 23 = .ok (.iconst 0, 1) := by decide +kernel
theorem d_X8_reason_24 : decode cX8_reason 24 = .ok (.goto 18, 3) := by decide +kernel
theorem d_X8_reason_27 : decode cX8_reason 27 = .ok (.iload_n 1, 1) := by decide +kernel
theorem d_X8_reason_28 : decode cX8_reason 28 = .ok (.ifCond .eq 10, 3) := by decide +kernel
theorem d_X8_reason_31 : decode cX8_reason 31 = .ok (.aload_n 0, 1) := by decide +kernel
theorem d_X8_reason_32 : decode cX8_reason 32 = .ok (.getfield 64, 3) := by decide +kernel
theorem d_X8_reason_35 : decode cX8_reason 35 = .ok (.goto 7, 3) := by decide +kernel
theorem d_X8_reason_38 : decode cX8_reason 38 = .ok (.aload_n 0, 1) := by decide +kernel
theorem d_X8_reason_39 : decode cX8_reason 39 = .ok (.getfield 61, 3) := by decide +kernel
theorem d_X8_reason_42 : decode cX8_reason 42 = .ok (.ireturn, 1) := by decide +kernel
theorem d_X8_overRobots_0 : decode cX8_overRobots 0 = .ok (.iconst 0, 1) := by decide +kernel
theorem d_X8_overRobots_1 : decode cX8_overRobots 1 = .ok (.istore_n 2, 1) := by decide +kernel
theorem d_X8_overRobots_2 : decode cX8_overRobots 2 = .ok (.iconst 0, 1) := by decide +kernel
theorem d_X8_overRobots_3 : decode cX8_overRobots 3 = .ok (.istore_n 3, 1) := by decide +kernel
theorem d_X8_overRobots_4 : decode cX8_overRobots 4 = .ok (.iload_n 3, 1) := by decide +kernel
theorem d_X8_overRobots_5 : decode cX8_overRobots 5 = .ok (.aload_n 0, 1) := by decide +kernel
theorem d_X8_overRobots_6 : decode cX8_overRobots 6 = .ok (.getfield 9, 3) := by decide +kernel
theorem d_X8_overRobots_9 : decode cX8_overRobots 9 = .ok (.iconst 3, 1) := by decide +kernel
theorem d_X8_overRobots_10 : decode cX8_overRobots 10 = .ok (.iaload, 1) := by decide +kernel
theorem d_X8_overRobots_11 : decode cX8_overRobots 11 = .ok (.if_icmp .ge 18, 3) := by decide +kernel
theorem d_X8_overRobots_14 : decode cX8_overRobots 14 = .ok (.iload_n 2, 1) := by decide +kernel
theorem d_X8_overRobots_15 : decode cX8_overRobots 15 = .ok (.aload_n 0, 1) := by decide +kernel
theorem d_X8_overRobots_16 : decode cX8_overRobots 16 = .ok (.iload_n 3, 1) := by decide +kernel
theorem d_X8_overRobots_17 : decode cX8_overRobots 17 = .ok (.iload_n 1, 1) := by decide +kernel
theorem d_X8_overRobots_18 : decode cX8_overRobots 18 = .ok (.invokevirtual 79, 3) := by decide +kernel
theorem d_X8_overRobots_21 : decode cX8_overRobots 21 = .ok (.iadd, 1) := by decide +kernel
theorem d_X8_overRobots_22 : decode cX8_overRobots 22 = .ok (.istore_n 2, 1) := by decide +kernel
theorem d_X8_overRobots_23 : decode cX8_overRobots 23 = .ok (.iinc 3 1, 3) := by decide +kernel
theorem d_X8_overRobots_26 : decode cX8_overRobots 26 = .ok (.goto (-22), 3) := by decide +kernel
theorem d_X8_overRobots_29 : decode cX8_overRobots 29 = .ok (.iload_n 2, 1) := by decide +kernel
theorem d_X8_overRobots_30 : decode cX8_overRobots 30 = .ok (.ireturn, 1) := by decide +kernel
theorem d_X8_overOrders_0 : decode cX8_overOrders 0 = .ok (.iconst 0, 1) := by decide +kernel
theorem d_X8_overOrders_1 : decode cX8_overOrders 1 = .ok (.istore_n 2, 1) := by decide +kernel
theorem d_X8_overOrders_2 : decode cX8_overOrders 2 = .ok (.iconst 0, 1) := by decide +kernel
theorem d_X8_overOrders_3 : decode cX8_overOrders 3 = .ok (.istore_n 3, 1) := by decide +kernel
theorem d_X8_overOrders_4 : decode cX8_overOrders 4 = .ok (.iload_n 3, 1) := by decide +kernel
theorem d_X8_overOrders_5 : decode cX8_overOrders 5 = .ok (.aload_n 0, 1) := by decide +kernel
theorem d_X8_overOrders_6 : decode cX8_overOrders 6 = .ok (.getfield 9, 3) := by decide +kernel
theorem d_X8_overOrders_9 : decode cX8_overOrders 9 = .ok (.iconst 4, 1) := by decide +kernel
theorem d_X8_overOrders_10 : decode cX8_overOrders 10 = .ok (.iaload, 1) := by decide +kernel
theorem d_X8_overOrders_11 : decode cX8_overOrders 11 = .ok (.if_icmp .ge 39, 3) := by decide +kernel
theorem d_X8_overOrders_14 : decode cX8_overOrders 14 = .ok (.iload_n 2, 1) := by decide +kernel
theorem d_X8_overOrders_15 : decode cX8_overOrders 15 = .ok (.iload_n 1, 1) := by decide +kernel
theorem d_X8_overOrders_16 : decode cX8_overOrders 16 = .ok (.ifCond .ge 12, 3) := by decide +kernel
theorem d_X8_overOrders_19 : decode cX8_overOrders 19 = .ok (.aload_n 0, 1) := by decide +kernel
theorem d_X8_overOrders_20 : decode cX8_overOrders 20 = .ok (.iload_n 3, 1) := by decide +kernel
theorem d_X8_overOrders_21 : decode cX8_overOrders 21 = .ok (.iconst 2, 1) := by decide +kernel
theorem d_X8_overOrders_22 : decode cX8_overOrders 22 = .ok (.invokevirtual 109, 3) := by decide +kernel
theorem d_X8_overOrders_25 : decode cX8_overOrders 25 = .ok (.goto 17, 3) := by decide +kernel
theorem d_X8_overOrders_28 : decode cX8_overOrders 28 = .ok (.aload_n 0, 1) := by decide +kernel
theorem d_X8_overOrders_29 : decode cX8_overOrders 29 = .ok (.iload_n 3, 1) := by decide +kernel
theorem d_X8_overOrders_30 : decode cX8_overOrders 30 = .ok (.invokevirtual 115, 3) := by decide +kernel
theorem d_X8_overOrders_33 : decode cX8_overOrders 33 = .ok (.iload_n 1, 1) := by decide +kernel
theorem d_X8_overOrders_34 : decode cX8_overOrders 34 = .ok (.if_icmp .ne 7, 3) := by decide +kernel
theorem d_X8_overOrders_37 : decode cX8_overOrders 37 = .ok (.iconst 1, 1) := by decide +kernel
theorem d_X8_overOrders_38 : decode cX8_overOrders 38 = .ok (.goto 4, 3) := by decide +kernel
theorem d_X8_overOrders_41 : decode cX8_overOrders 41 = .ok (.iconst 0, 1) := by decide +kernel
theorem d_X8_overOrders_42 : decode cX8_overOrders 42 = .ok (.iadd, 1) := by decide +kernel
theorem d_X8_overOrders_43 : decode cX8_overOrders 43 = .ok (.istore_n 2, 1) := by decide +kernel
theorem d_X8_overOrders_44 : decode cX8_overOrders 44 = .ok (.iinc 3 1, 3) := by decide +kernel
theorem d_X8_overOrders_47 : decode cX8_overOrders 47 = .ok (.goto (-43), 3) := by decide +kernel
theorem d_X8_overOrders_50 : decode cX8_overOrders 50 = .ok (.iload_n 2, 1) := by decide +kernel
theorem d_X8_overOrders_51 : decode cX8_overOrders 51 = .ok (.ireturn, 1) := by decide +kernel
theorem d_X8_account_0 : decode cX8_account 0 = .ok (.aload_n 0, 1) := by decide +kernel
theorem d_X8_account_1 : decode cX8_account 1 = .ok (.iload_n 1, 1) := by decide +kernel
theorem d_X8_account_2 : decode cX8_account 2 = .ok (.iconst 0, 1) := by decide +kernel
theorem d_X8_account_3 : decode cX8_account 3 = .ok (.bipush 16, 2) := by decide +kernel
theorem d_X8_account_5 : decode cX8_account 5 = .ok (.invokestatic 71, 3) := by decide +kernel
theorem d_X8_account_8 : decode cX8_account 8 = .ok (.ifCond .eq 7, 3) := by decide +kernel
theorem d_X8_account_11 : decode cX8_account 11 = .ok (.iconst 0, 1) := by decide +kernel
theorem d_X8_account_12 : decode cX8_account 12 = .ok (.goto 4, 3) := by decide +kernel
theorem d_X8_account_15 : decode cX8_account 15 = .ok (.iconst 1, 1) := by decide +kernel
theorem d_X8_account_16 : decode cX8_account 16 = .ok (.putfield 49, 3) := by decide +kernel
theorem d_X8_account_19 : decode cX8_account 19 = .ok (.aload_n 0, 1) := by decide +kernel
theorem d_X8_account_20 : decode cX8_account 20 = .ok (.getfield 49, 3) := by decide +kernel
theorem d_X8_account_23 : decode cX8_account 23 = .ok (.ifCond .le 5, 3) := by decide +kernel
theorem d_X8_account_26 : decode cX8_account 26 = .ok (.iconst 0, 1) := by decide +kernel
theorem d_X8_account_27 : decode cX8_account 27 = .ok (.ireturn, 1) := by decide +kernel
theorem d_X8_account_28 : decode cX8_account 28 = .ok (.iload_n 1, 1) := by decide +kernel
theorem d_X8_account_29 : decode cX8_account 29 = .ok (.tableswitch 147 0 13 #[71, 78, 85, 92, 99, 99, 99, 107, 112, 119, 125, 131, 137, 142], 71) := by decide +kernel
theorem d_X8_account_100 : decode cX8_account 100 = .ok (.aload_n 0, 1) := by decide +kernel
theorem d_X8_account_101 : decode cX8_account 101 = .ok (.getfield 9, 3) := by decide +kernel
theorem d_X8_account_104 : decode cX8_account 104 = .ok (.iconst 0, 1) := by decide +kernel
theorem d_X8_account_105 : decode cX8_account 105 = .ok (.iaload, 1) := by decide +kernel
theorem d_X8_account_106 : decode cX8_account 106 = .ok (.ireturn, 1) := by decide +kernel
theorem d_X8_account_107 : decode cX8_account 107 = .ok (.aload_n 0, 1) := by decide +kernel
theorem d_X8_account_108 : decode cX8_account 108 = .ok (.getfield 9, 3) := by decide +kernel
theorem d_X8_account_111 : decode cX8_account 111 = .ok (.iconst 1, 1) := by decide +kernel
theorem d_X8_account_112 : decode cX8_account 112 = .ok (.iaload, 1) := by decide +kernel
theorem d_X8_account_113 : decode cX8_account 113 = .ok (.ireturn, 1) := by decide +kernel
theorem d_X8_account_114 : decode cX8_account 114 = .ok (.aload_n 0, 1) := by decide +kernel
theorem d_X8_account_115 : decode cX8_account 115 = .ok (.getfield 9, 3) := by decide +kernel
theorem d_X8_account_118 : decode cX8_account 118 = .ok (.iconst 3, 1) := by decide +kernel
theorem d_X8_account_119 : decode cX8_account 119 = .ok (.iaload, 1) := by decide +kernel
theorem d_X8_account_120 : decode cX8_account 120 = .ok (.ireturn, 1) := by decide +kernel
theorem d_X8_account_121 : decode cX8_account 121 = .ok (.aload_n 0, 1) := by decide +kernel
theorem d_X8_account_122 : decode cX8_account 122 = .ok (.getfield 9, 3) := by decide +kernel
theorem d_X8_account_125 : decode cX8_account 125 = .ok (.iconst 4, 1) := by decide +kernel
theorem d_X8_account_126 : decode cX8_account 126 = .ok (.iaload, 1) := by decide +kernel
theorem d_X8_account_127 : decode cX8_account 127 = .ok (.ireturn, 1) := by decide +kernel
theorem d_X8_account_128 : decode cX8_account 128 = .ok (.aload_n 0, 1) := by decide +kernel
theorem d_X8_account_129 : decode cX8_account 129 = .ok (.iload_n 1, 1) := by decide +kernel
theorem d_X8_account_130 : decode cX8_account 130 = .ok (.iconst 4, 1) := by decide +kernel
theorem d_X8_account_131 : decode cX8_account 131 = .ok (.isub, 1) := by decide +kernel
theorem d_X8_account_132 : decode cX8_account 132 = .ok (.invokevirtual 186, 3) := by decide +kernel
theorem d_X8_account_135 : decode cX8_account 135 = .ok (.ireturn, 1) := by decide +kernel
theorem d_X8_account_136 : decode cX8_account 136 = .ok (.aload_n 0, 1) := by decide +kernel
theorem d_X8_account_137 : decode cX8_account 137 = .ok (.invokevirtual 118, 3) := by decide +kernel
theorem d_X8_account_140 : decode cX8_account 140 = .ok (.ireturn, 1) := by decide +kernel
theorem d_X8_account_141 : decode cX8_account 141 = .ok (.aload_n 0, 1) := by decide +kernel
theorem d_X8_account_142 : decode cX8_account 142 = .ok (.getfield 9, 3) := by decide +kernel
theorem d_X8_account_145 : decode cX8_account 145 = .ok (.iconst 2, 1) := by decide +kernel
theorem d_X8_account_146 : decode cX8_account 146 = .ok (.iaload, 1) := by decide +kernel
theorem d_X8_account_147 : decode cX8_account 147 = .ok (.ireturn, 1) := by decide +kernel
theorem d_X8_account_148 : decode cX8_account 148 = .ok (.aload_n 0, 1) := by decide +kernel
theorem d_X8_account_149 : decode cX8_account 149 = .ok (.iconst 5, 1) := by decide +kernel
theorem d_X8_account_150 : decode cX8_account 150 = .ok (.invokevirtual 189, 3) := by decide +kernel
theorem d_X8_account_153 : decode cX8_account 153 = .ok (.ireturn, 1) := by decide +kernel
theorem d_X8_account_154 : decode cX8_account 154 = .ok (.aload_n 0, 1) := by decide +kernel
theorem d_X8_account_155 : decode cX8_account 155 = .ok (.iconst (-1), 1) := by decide +kernel
theorem d_X8_account_156 : decode cX8_account 156 = .ok (.invokevirtual 186, 3) := by decide +kernel
theorem d_X8_account_159 : decode cX8_account 159 = .ok (.ireturn, 1) := by decide +kernel
theorem d_X8_account_160 : decode cX8_account 160 = .ok (.aload_n 0, 1) := by decide +kernel
theorem d_X8_account_161 : decode cX8_account 161 = .ok (.iconst 1, 1) := by decide +kernel
theorem d_X8_account_162 : decode cX8_account 162 = .ok (.invokevirtual 189, 3) := by decide +kernel
theorem d_X8_account_165 : decode cX8_account 165 = .ok (.ireturn, 1) := by decide +kernel
theorem d_X8_account_166 : decode cX8_account 166 = .ok (.aload_n 0, 1) := by decide +kernel
theorem d_X8_account_167 : decode cX8_account 167 = .ok (.getfield 52, 3) := by decide +kernel
theorem d_X8_account_170 : decode cX8_account 170 = .ok (.ireturn, 1) := by decide +kernel
theorem d_X8_account_171 : decode cX8_account 171 = .ok (.aload_n 0, 1) := by decide +kernel
theorem d_X8_account_172 : decode cX8_account 172 = .ok (.getfield 192, 3) := by decide +kernel
theorem d_X8_account_175 : decode cX8_account 175 = .ok (.ireturn, 1) := by decide +kernel
theorem d_X8_account_176 : decode cX8_account 176 = .ok (.aload_n 0, 1) := by decide +kernel
theorem d_X8_account_177 : decode cX8_account 177 = .ok (.getfield 9, 3) := by decide +kernel
theorem d_X8_account_180 : decode cX8_account 180 = .ok (.iconst 5, 1) := by decide +kernel
theorem d_X8_account_181 : decode cX8_account 181 = .ok (.iload_n 1, 1) := by decide +kernel
theorem d_X8_account_182 : decode cX8_account 182 = .ok (.iadd, 1) := by decide +kernel
theorem d_X8_account_183 : decode cX8_account 183 = .ok (.bipush 14, 2) := by decide +kernel
theorem d_X8_account_185 : decode cX8_account 185 = .ok (.isub, 1) := by decide +kernel
theorem d_X8_account_186 : decode cX8_account 186 = .ok (.iaload, 1) := by decide +kernel
theorem d_X8_account_187 : decode cX8_account 187 = .ok (.ireturn, 1) := by decide +kernel
theorem d_X8_append_0 : decode cX8_append 0 = .ok (.aload_n 0, 1) := by decide +kernel
theorem d_X8_append_1 : decode cX8_append 1 = .ok (.aload_n 0, 1) := by decide +kernel
theorem d_X8_append_2 : decode cX8_append 2 = .ok (.getfield 192, 3) := by decide +kernel
theorem d_X8_append_5 : decode cX8_append 5 = .ok (.bipush 60, 2) := by decide +kernel
theorem d_X8_append_7 : decode cX8_append 7 = .ok (.if_icmp .ne 7, 3) := by decide +kernel
theorem d_X8_append_10 : decode cX8_append 10 = .ok (.iconst 1, 1) := by decide +kernel
theorem d_X8_append_11 : decode cX8_append 11 = .ok (.goto 4, 3) := by decide +kernel
theorem d_X8_append_14 : decode cX8_append 14 = .ok (.iconst 0, 1) := by decide +kernel
theorem d_X8_append_15 : decode cX8_append 15 = .ok (.putfield 49, 3) := by decide +kernel
theorem d_X8_append_18 : decode cX8_append 18 = .ok (.aload_n 0, 1) := by decide +kernel
theorem d_X8_append_19 : decode cX8_append 19 = .ok (.getfield 49, 3) := by decide +kernel
theorem d_X8_append_22 : decode cX8_append 22 = .ok (.ifCond .le 5, 3) := by decide +kernel
theorem d_X8_append_25 : decode cX8_append 25 = .ok (.iconst 0, 1) := by decide +kernel
theorem d_X8_append_26 : decode cX8_append 26 = .ok (.ireturn, 1) := by decide +kernel
theorem d_X8_append_27 : decode cX8_append 27 = .ok (.aload_n 0, 1) := by decide +kernel
theorem d_X8_append_28 : decode cX8_append 28 = .ok (.getfield 41, 3) := by decide +kernel
theorem d_X8_append_31 : decode cX8_append 31 = .ok (.aload_n 0, 1) := by decide +kernel
theorem d_X8_append_32 : decode cX8_append 32 = .ok (.getfield 192, 3) := by decide +kernel
theorem d_X8_append_35 : decode cX8_append 35 = .ok (.iload_n 1, 1) := by decide +kernel
theorem d_X8_append_36 : decode cX8_append 36 = .ok (.castore, 1) := by decide +kernel
theorem d_X8_append_37 : decode cX8_append 37 = .ok (.aload_n 0, 1) := by decide +kernel
theorem d_X8_append_38 : decode cX8_append 38 = .ok (.dup, 1) := by decide +kernel
theorem d_X8_append_39 : decode cX8_append 39 = .ok (.getfield 192, 3) := by decide +kernel
theorem d_X8_append_42 : decode cX8_append 42 = .ok (.iconst 1, 1) := by decide +kernel
theorem d_X8_append_43 : decode cX8_append 43 = .ok (.iadd, 1) := by decide +kernel
theorem d_X8_append_44 : decode cX8_append 44 = .ok (.putfield 192, 3) := by decide +kernel
theorem d_X8_append_47 : decode cX8_append 47 = .ok (.aload_n 0, 1) := by decide +kernel
theorem d_X8_append_48 : decode cX8_append 48 = .ok (.getfield 192, 3) := by decide +kernel
theorem d_X8_append_51 : decode cX8_append 51 = .ok (.ireturn, 1) := by decide +kernel
theorem d_X8_wrongPlace_0 : decode cX8_wrongPlace 0 = .ok (.aload_n 0, 1) := by decide +kernel
theorem d_X8_wrongPlace_1 : decode cX8_wrongPlace 1 = .ok (.iconst 1, 1) := by decide +kernel
theorem d_X8_wrongPlace_2 : decode cX8_wrongPlace 2 = .ok (.putfield 195, 3) := by decide +kernel
theorem d_X8_wrongPlace_5 : decode cX8_wrongPlace 5 = .ok (.aload_n 0, 1) := by decide +kernel
theorem d_X8_wrongPlace_6 : decode cX8_wrongPlace 6 = .ok (.iconst 0, 1) := by decide +kernel
theorem d_X8_wrongPlace_7 : decode cX8_wrongPlace 7 = .ok (.putfield 198, 3) := by decide +kernel
theorem d_X8_wrongPlace_10 : decode cX8_wrongPlace 10 = .ok (.iconst 0, 1) := by decide +kernel
theorem d_X8_wrongPlace_11 : decode cX8_wrongPlace 11 = .ok (.istore_n 1, 1) := by decide +kernel
theorem d_X8_wrongPlace_12 : decode cX8_wrongPlace 12 = .ok (.iconst 0, 1) := by decide +kernel
theorem d_X8_wrongPlace_13 : decode cX8_wrongPlace 13 = .ok (.istore_n 2, 1) := by decide +kernel
theorem d_X8_wrongPlace_14 : decode cX8_wrongPlace 14 = .ok (.iload_n 2, 1) := by decide +kernel
theorem d_X8_wrongPlace_15 : decode cX8_wrongPlace 15 = .ok (.aload_n 0, 1) := by decide +kernel
theorem d_X8_wrongPlace_16 : decode cX8_wrongPlace 16 = .ok (.getfield 192, 3) := by decide +kernel
theorem d_X8_wrongPlace_19 : decode cX8_wrongPlace 19 = .ok (.if_icmp .ge 144, 3) := by decide +kernel
theorem d_X8_wrongPlace_22 : decode cX8_wrongPlace 22 = .ok (.ldc 171, 2) := by decide +kernel
theorem d_X8_wrongPlace_24 : decode cX8_wrongPlace 24 = .ok (.aload_n 0, 1) := by decide +kernel
theorem d_X8_wrongPlace_25 : decode cX8_wrongPlace 25 = .ok (.getfield 41, 3) := by decide +kernel
theorem d_X8_wrongPlace_28 : decode cX8_wrongPlace 28 = .ok (.iload_n 2, 1) := by decide +kernel
theorem d_X8_wrongPlace_29 : decode cX8_wrongPlace 29 = .ok (.caload, 1) := by decide +kernel
theorem d_X8_wrongPlace_30 : decode cX8_wrongPlace 30 = .ok (.invokevirtual 201, 3) := by decide +kernel
theorem d_X8_wrongPlace_33 : decode cX8_wrongPlace 33 = .ok (.istore_n 3, 1) := by decide +kernel
theorem d_X8_wrongPlace_34 : decode cX8_wrongPlace 34 = .ok (.iload_n 3, 1) := by decide +kernel
theorem d_X8_wrongPlace_35 : decode cX8_wrongPlace 35 = .ok (.ifCond .lt 32, 3) := by decide +kernel
theorem d_X8_wrongPlace_38 : decode cX8_wrongPlace 38 = .ok (.iload_n 1, 1) := by decide +kernel
theorem d_X8_wrongPlace_39 : decode cX8_wrongPlace 39 = .ok (.aload_n 0, 1) := by decide +kernel
theorem d_X8_wrongPlace_40 : decode cX8_wrongPlace 40 = .ok (.getfield 195, 3) := by decide +kernel
theorem d_X8_wrongPlace_43 : decode cX8_wrongPlace 43 = .ok (.iconst 1, 1) := by decide +kernel
theorem d_X8_wrongPlace_44 : decode cX8_wrongPlace 44 = .ok (.if_icmp .ne 8, 3) := by decide +kernel
theorem d_X8_wrongPlace_47 : decode cX8_wrongPlace 47 = .ok (.bipush 8, 2) := by decide +kernel
theorem d_X8_wrongPlace_49 : decode cX8_wrongPlace 49 = .ok (.goto 7, 3) := by decide +kernel
theorem d_X8_wrongPlace_52 : decode cX8_wrongPlace 52 = .ok (.aload_n 0, 1) := by decide +kernel
theorem d_X8_wrongPlace_53 : decode cX8_wrongPlace 53 = .ok (.getfield 198, 3) := by decide +kernel
theorem d_X8_wrongPlace_56 : decode cX8_wrongPlace 56 = .ok (.if_icmp .ne 5, 3) := by decide +kernel
theorem d_X8_wrongPlace_59 : decode cX8_wrongPlace 59 = .ok (.iload_n 2, 1) := by decide +kernel
theorem d_X8_wrongPlace_60 : decode cX8_wrongPlace 60 = .ok (.ireturn, 1) := by decide +kernel
theorem d_X8_wrongPlace_61 : decode cX8_wrongPlace 61 = .ok (.iinc 1 1, 3) := by decide +kernel
theorem d_X8_wrongPlace_64 : decode cX8_wrongPlace 64 = .ok (.goto 93, 3) := by decide +kernel
theorem d_X8_wrongPlace_67 : decode cX8_wrongPlace 67 = .ok (.aload_n 0, 1) := by decide +kernel
theorem d_X8_wrongPlace_68 : decode cX8_wrongPlace 68 = .ok (.getfield 41, 3) := by decide +kernel
theorem d_X8_wrongPlace_71 : decode cX8_wrongPlace 71 = .ok (.iload_n 2, 1) := by decide +kernel
theorem d_X8_wrongPlace_72 : decode cX8_wrongPlace 72 = .ok (.caload, 1) := by decide +kernel
theorem d_X8_wrongPlace_73 : decode cX8_wrongPlace 73 = .ok (.bipush 47, 2) := by decide +kernel
theorem d_X8_wrongPlace_75 : decode cX8_wrongPlace 75 = .ok (.if_icmp .ne 40, 3) := by decide +kernel
theorem d_X8_wrongPlace_78 : decode cX8_wrongPlace 78 = .ok (.aload_n 0, 1) := by decide +kernel
theorem d_X8_wrongPlace_79 : decode cX8_wrongPlace 79 = .ok (.getfield 195, 3) := by decide +kernel
theorem d_X8_wrongPlace_82 : decode cX8_wrongPlace 82 = .ok (.bipush 6, 2) := by decide +kernel
theorem d_X8_wrongPlace_84 : decode cX8_wrongPlace 84 = .ok (.if_icmp .ge 31, 3) := by decide +kernel
theorem d_X8_wrongPlace_87 : decode cX8_wrongPlace 87 = .ok (.aload_n 0, 1) := by decide +kernel
theorem d_X8_wrongPlace_88 : decode cX8_wrongPlace 88 = .ok (.getfield 195, 3) := by decide +kernel
theorem d_X8_wrongPlace_91 : decode cX8_wrongPlace 91 = .ok (.iconst 1, 1) := by decide +kernel
theorem d_X8_wrongPlace_92 : decode cX8_wrongPlace 92 = .ok (.if_icmp .ne 11, 3) := by decide +kernel
theorem d_X8_wrongPlace_95 : decode cX8_wrongPlace 95 = .ok (.iload_n 1, 1) := by decide +kernel
theorem d_X8_wrongPlace_96 : decode cX8_wrongPlace 96 = .ok (.iconst 2, 1) := by decide +kernel
theorem d_X8_wrongPlace_97 : decode cX8_wrongPlace 97 = .ok (.if_icmp .lt 18, 3) := by decide +kernel
theorem d_X8_wrongPlace_100 : decode cX8_wrongPlace 100 = .ok (.goto 11, 3) := by decide +kernel
theorem d_X8_wrongPlace_103 : decode cX8_wrongPlace 103 = .ok (.iload_n 1, 1) := by decide +kernel
theorem d_X8_wrongPlace_104 : decode cX8_wrongPlace 104 = .ok (.aload_n 0, 1) := by decide +kernel
theorem d_X8_wrongPlace_105 : decode cX8_wrongPlace 105 = .ok (.getfield 198, 3) := by decide +kernel
theorem d_X8_wrongPlace_108 : decode cX8_wrongPlace 108 = .ok (.if_icmp .ne 7, 3) := by decide +kernel
theorem d_X8_wrongPlace_111 : decode cX8_wrongPlace 111 = .ok (.iconst 1, 1) := by decide +kernel
theorem d_X8_wrongPlace_112 : decode cX8_wrongPlace 112 = .ok (.goto 4, 3) := by decide +kernel
theorem d_X8_wrongPlace_115 : decode cX8_wrongPlace 115 = .ok (.iconst 0, 1) := by decide +kernel
theorem d_X8_wrongPlace_116 : decode cX8_wrongPlace 116 = .ok (.istore 4, 2) := by decide +kernel
theorem d_X8_wrongPlace_118 : decode cX8_wrongPlace 118 = .ok (.iload 4, 2) := by decide +kernel
theorem d_X8_wrongPlace_120 : decode cX8_wrongPlace 120 = .ok (.ifCond .ne 5, 3) := by decide +kernel
theorem d_X8_wrongPlace_123 : decode cX8_wrongPlace 123 = .ok (.iload_n 2, 1) := by decide +kernel
theorem d_X8_wrongPlace_124 : decode cX8_wrongPlace 124 = .ok (.ireturn, 1) := by decide +kernel
theorem d_X8_wrongPlace_125 : decode cX8_wrongPlace 125 = .ok (.aload_n 0, 1) := by decide +kernel
theorem d_X8_wrongPlace_126 : decode cX8_wrongPlace 126 = .ok (.aload_n 0, 1) := by decide +kernel
theorem d_X8_wrongPlace_127 : decode cX8_wrongPlace 127 = .ok (.getfield 195, 3) := by decide +kernel
theorem d_X8_wrongPlace_130 : decode cX8_wrongPlace 130 = .ok (.iconst 1, 1) := by decide +kernel
theorem d_X8_wrongPlace_131 : decode cX8_wrongPlace 131 = .ok (.if_icmp .ne 7, 3) := by decide +kernel
theorem d_X8_wrongPlace_134 : decode cX8_wrongPlace 134 = .ok (.iload_n 1, 1) := by decide +kernel
theorem d_X8_wrongPlace_135 : decode cX8_wrongPlace 135 = .ok (.goto 7, 3) := by decide +kernel
theorem d_X8_wrongPlace_138 : decode cX8_wrongPlace 138 = .ok (.aload_n 0, 1) := by decide +kernel
theorem d_X8_wrongPlace_139 : decode cX8_wrongPlace 139 = .ok (.getfield 198, 3) := by decide +kernel
theorem d_X8_wrongPlace_142 : decode cX8_wrongPlace 142 = .ok (.putfield 198, 3) := by decide +kernel
theorem d_X8_wrongPlace_145 : decode cX8_wrongPlace 145 = .ok (.aload_n 0, 1) := by decide +kernel
theorem d_X8_wrongPlace_146 : decode cX8_wrongPlace 146 = .ok (.dup, 1) := by decide +kernel
theorem d_X8_wrongPlace_147 : decode cX8_wrongPlace 147 = .ok (.getfield 195, 3) := by decide +kernel
theorem d_X8_wrongPlace_150 : decode cX8_wrongPlace 150 = .ok (.iconst 1, 1) := by decide +kernel
theorem d_X8_wrongPlace_151 : decode cX8_wrongPlace 151 = .ok (.iadd, 1) := by decide +kernel
theorem d_X8_wrongPlace_152 : decode cX8_wrongPlace 152 = .ok (.putfield 195, 3) := by decide +kernel
theorem d_X8_wrongPlace_155 : decode cX8_wrongPlace 155 = .ok (.iconst 0, 1) := by decide +kernel
theorem d_X8_wrongPlace_156 : decode cX8_wrongPlace 156 = .ok (.istore_n 1, 1) := by decide +kernel
theorem d_X8_wrongPlace_157 : decode cX8_wrongPlace 157 = .ok (.iinc 2 1, 3) := by decide +kernel
theorem d_X8_wrongPlace_160 : decode cX8_wrongPlace 160 = .ok (.goto (-146), 3) := by decide +kernel
theorem d_X8_wrongPlace_163 : decode cX8_wrongPlace 163 = .ok (.aload_n 0, 1) := by decide +kernel
theorem d_X8_wrongPlace_164 : decode cX8_wrongPlace 164 = .ok (.aload_n 0, 1) := by decide +kernel
theorem d_X8_wrongPlace_165 : decode cX8_wrongPlace 165 = .ok (.getfield 195, 3) := by decide +kernel
theorem d_X8_wrongPlace_168 : decode cX8_wrongPlace 168 = .ok (.iconst 1, 1) := by decide +kernel
theorem d_X8_wrongPlace_169 : decode cX8_wrongPlace 169 = .ok (.if_icmp .ne 7, 3) := by decide +kernel
theorem d_X8_wrongPlace_172 : decode cX8_wrongPlace 172 = .ok (.iload_n 1, 1) := by decide +kernel
theorem d_X8_wrongPlace_173 : decode cX8_wrongPlace 173 = .ok (.goto 7, 3) := by decide +kernel
theorem d_X8_wrongPlace_176 : decode cX8_wrongPlace 176 = .ok (.aload_n 0, 1) := by decide +kernel
theorem d_X8_wrongPlace_177 : decode cX8_wrongPlace 177 = .ok (.getfield 198, 3) := by decide +kernel
theorem d_X8_wrongPlace_180 : decode cX8_wrongPlace 180 = .ok (.putfield 198, 3) := by decide +kernel
theorem d_X8_wrongPlace_183 : decode cX8_wrongPlace 183 = .ok (.iload_n 1, 1) := by decide +kernel
theorem d_X8_wrongPlace_184 : decode cX8_wrongPlace 184 = .ok (.iconst 2, 1) := by decide +kernel
theorem d_X8_wrongPlace_185 : decode cX8_wrongPlace 185 = .ok (.if_icmp .lt 11, 3) := by decide +kernel
theorem d_X8_wrongPlace_188 : decode cX8_wrongPlace 188 = .ok (.iload_n 1, 1) := by decide +kernel
theorem d_X8_wrongPlace_189 : decode cX8_wrongPlace 189 = .ok (.aload_n 0, 1) := by decide +kernel
theorem d_X8_wrongPlace_190 : decode cX8_wrongPlace 190 = .ok (.getfield 198, 3) := by decide +kernel
theorem d_X8_wrongPlace_193 : decode cX8_wrongPlace 193 = .ok (.if_icmp .ge 10, 3) := by decide +kernel
theorem d_X8_wrongPlace_196 : decode cX8_wrongPlace 196 = .ok (.aload_n 0, 1) := by decide +kernel
theorem d_X8_wrongPlace_197 : decode cX8_wrongPlace 197 = .ok (.getfield 192, 3) := by decide +kernel
theorem d_X8_wrongPlace_200 : decode cX8_wrongPlace 200 = .ok (.goto 4, 3) := by decide +kernel
theorem d_X8_wrongPlace_203 : decode cX8_wrongPlace 203 = .ok (.iconst (-1), 1) := by decide +kernel
theorem d_X8_wrongPlace_204 : decode cX8_wrongPlace 204 = .ok (.ireturn, 1) := by decide +kernel
theorem d_X8_layout_0 : decode cX8_layout 0 = .ok (.aload_n 0, 1) := by decide +kernel
theorem d_X8_layout_1 : decode cX8_layout 1 = .ok (.aload_n 0, 1) := by decide +kernel
theorem d_X8_layout_2 : decode cX8_layout 2 = .ok (.invokevirtual 204, 3) := by decide +kernel
theorem d_X8_layout_5 : decode cX8_layout 5 = .ok (.putfield 45, 3) := by decide +kernel
theorem d_X8_layout_8 : decode cX8_layout 8 = .ok (.aload_n 0, 1) := by decide +kernel
theorem d_X8_layout_9 : decode cX8_layout 9 = .ok (.getfield 192, 3) := by decide +kernel
theorem d_X8_layout_12 : decode cX8_layout 12 = .ok (.istore_n 1, 1) := by decide +kernel
theorem d_X8_layout_13 : decode cX8_layout 13 = .ok (.aload_n 0, 1) := by decide +kernel
theorem d_X8_layout_14 : decode cX8_layout 14 = .ok (.iconst 0, 1) := by decide +kernel
theorem d_X8_layout_15 : decode cX8_layout 15 = .ok (.putfield 192, 3) := by decide +kernel
theorem d_X8_layout_18 : decode cX8_layout 18 = .ok (.aload_n 0, 1) := by decide +kernel
theorem d_X8_layout_19 : decode cX8_layout 19 = .ok (.aload_n 0, 1) := by decide +kernel
theorem d_X8_layout_20 : decode cX8_layout 20 = .ok (.getfield 45, 3) := by decide +kernel
theorem d_X8_layout_23 : decode cX8_layout 23 = .ok (.ifCond .ge 7, 3) := by decide +kernel
theorem d_X8_layout_26 : decode cX8_layout 26 = .ok (.iconst 0, 1) := by decide +kernel
theorem d_X8_layout_27 : decode cX8_layout 27 = .ok (.goto 4, 3) := by decide +kernel
theorem d_X8_layout_30 : decode cX8_layout 30 = .ok (.iconst 1, 1) := by decide +kernel
theorem d_X8_layout_31 : decode cX8_layout 31 = .ok (.putfield 49, 3) := by decide +kernel
theorem d_X8_layout_34 : decode cX8_layout 34 = .ok (.aload_n 0, 1) := by decide +kernel
theorem d_X8_layout_35 : decode cX8_layout 35 = .ok (.getfield 49, 3) := by decide +kernel
theorem d_X8_layout_38 : decode cX8_layout 38 = .ok (.ifCond .le 5, 3) := by decide +kernel
theorem d_X8_layout_41 : decode cX8_layout 41 = .ok (.iconst 0, 1) := by decide +kernel
theorem d_X8_layout_42 : decode cX8_layout 42 = .ok (.ireturn, 1) := by decide +kernel
theorem d_X8_layout_43 : decode cX8_layout 43 = .ok (.aload_n 0, 1) := by decide +kernel
theorem d_X8_layout_44 : decode cX8_layout 44 = .ok (.invokevirtual 100, 3) := by decide +kernel
theorem d_X8_layout_47 : decode cX8_layout 47 = .ok (.iconst 0, 1) := by decide +kernel
theorem d_X8_layout_48 : decode cX8_layout 48 = .ok (.istore_n 2, 1) := by decide +kernel
theorem d_X8_layout_49 : decode cX8_layout 49 = .ok (.iload_n 2, 1) := by decide +kernel
theorem d_X8_layout_50 : decode cX8_layout 50 = .ok (.sipush 400, 3) := by decide +kernel
theorem d_X8_layout_53 : decode cX8_layout 53 = .ok (.if_icmp .ge 35, 3) := by decide +kernel
theorem d_X8_layout_56 : decode cX8_layout 56 = .ok (.aload_n 0, 1) := by decide +kernel
theorem d_X8_layout_57 : decode cX8_layout 57 = .ok (.getfield 9, 3) := by decide +kernel
theorem d_X8_layout_60 : decode cX8_layout 60 = .ok (.iload_n 2, 1) := by decide +kernel
theorem d_X8_layout_61 : decode cX8_layout 61 = .ok (.iload_n 2, 1) := by decide +kernel
theorem d_X8_layout_62 : decode cX8_layout 62 = .ok (.iconst 5, 1) := by decide +kernel
theorem d_X8_layout_63 : decode cX8_layout 63 = .ok (.bipush 7, 2) := by decide +kernel
theorem d_X8_layout_65 : decode cX8_layout 65 = .ok (.invokestatic 71, 3) := by decide +kernel
theorem d_X8_layout_68 : decode cX8_layout 68 = .ok (.ifCond .eq 12, 3) := by decide +kernel
theorem d_X8_layout_71 : decode cX8_layout 71 = .ok (.aload_n 0, 1) := by decide +kernel
theorem d_X8_layout_72 : decode cX8_layout 72 = .ok (.getfield 9, 3) := by decide +kernel
theorem d_X8_layout_75 : decode cX8_layout 75 = .ok (.iload_n 2, 1) := by decide +kernel
theorem d_X8_layout_76 : decode cX8_layout 76 = .ok (.iaload, 1) := by decide +kernel
theorem d_X8_layout_77 : decode cX8_layout 77 = .ok (.goto 4, 3) := by decide +kernel
theorem d_X8_layout_80 : decode cX8_layout 80 = .ok (.iconst 0, 1) := by decide +kernel
theorem d_X8_layout_81 : decode cX8_layout 81 = .ok (.iastore, 1) := by decide +kernel
theorem d_X8_layout_82 : decode cX8_layout 82 = .ok (.iinc 2 1, 3) := by decide +kernel
theorem d_X8_layout_85 : decode cX8_layout 85 = .ok (.goto (-36), 3) := by decide +kernel
theorem d_X8_layout_88 : decode cX8_layout 88 = .ok (.aload_n 0, 1) := by decide +kernel
theorem d_X8_layout_89 : decode cX8_layout 89 = .ok (.getfield 9, 3) := by decide +kernel
theorem d_X8_layout_92 : decode cX8_layout 92 = .ok (.iconst 0, 1) := by decide +kernel
theorem d_X8_layout_93 : decode cX8_layout 93 = .ok (.aload_n 0, 1) := by decide +kernel
theorem d_X8_layout_94 : decode cX8_layout 94 = .ok (.getfield 195, 3) := by decide +kernel
theorem d_X8_layout_97 : decode cX8_layout 97 = .ok (.iastore, 1) := by decide +kernel
theorem d_X8_layout_98 : decode cX8_layout 98 = .ok (.aload_n 0, 1) := by decide +kernel
theorem d_X8_layout_99 : decode cX8_layout 99 = .ok (.getfield 9, 3) := by decide +kernel
theorem d_X8_layout_102 : decode cX8_layout 102 = .ok (.iconst 1, 1) := by decide +kernel
theorem d_X8_layout_103 : decode cX8_layout 103 = .ok (.aload_n 0, 1) := by decide +kernel
theorem d_X8_layout_104 : decode cX8_layout 104 = .ok (.getfield 198, 3) := by decide +kernel
theorem d_X8_layout_107 : decode cX8_layout 107 = .ok (.iastore, 1) := by decide +kernel
theorem d_X8_layout_108 : decode cX8_layout 108 = .ok (.iconst 0, 1) := by decide +kernel
theorem d_X8_layout_109 : decode cX8_layout 109 = .ok (.istore_n 2, 1) := by decide +kernel
theorem d_X8_layout_110 : decode cX8_layout 110 = .ok (.iconst 0, 1) := by decide +kernel
theorem d_X8_layout_111 : decode cX8_layout 111 = .ok (.istore_n 3, 1) := by decide +kernel
theorem d_X8_layout_112 : decode cX8_layout 112 = .ok (.iload_n 3, 1) := by decide +kernel
theorem d_X8_layout_113 : decode cX8_layout 113 = .ok (.iload_n 1, 1) := by decide +kernel
theorem d_X8_layout_114 : decode cX8_layout 114 = .ok (.if_icmp .ge 43, 3) := by decide +kernel
theorem d_X8_layout_117 : decode cX8_layout 117 = .ok (.aload_n 0, 1) := by decide +kernel
theorem d_X8_layout_118 : decode cX8_layout 118 = .ok (.getfield 41, 3) := by decide +kernel
theorem d_X8_layout_121 : decode cX8_layout 121 = .ok (.iload_n 3, 1) := by decide +kernel
theorem d_X8_layout_122 : decode cX8_layout 122 = .ok (.caload, 1) := by decide +kernel
theorem d_X8_layout_123 : decode cX8_layout 123 = .ok (.bipush 47, 2) := by decide +kernel
theorem d_X8_layout_125 : decode cX8_layout 125 = .ok (.if_icmp .eq 26, 3) := by decide +kernel
theorem d_X8_layout_128 : decode cX8_layout 128 = .ok (.aload_n 0, 1) := by decide +kernel
theorem d_X8_layout_129 : decode cX8_layout 129 = .ok (.getfield 9, 3) := by decide +kernel
theorem d_X8_layout_132 : decode cX8_layout 132 = .ok (.bipush 8, 2) := by decide +kernel
theorem d_X8_layout_134 : decode cX8_layout 134 = .ok (.iload_n 2, 1) := by decide +kernel
theorem d_X8_layout_135 : decode cX8_layout 135 = .ok (.iadd, 1) := by decide +kernel
theorem d_X8_layout_136 : decode cX8_layout 136 = .ok (.ldc 171, 2) := by decide +kernel
theorem d_X8_layout_138 : decode cX8_layout 138 = .ok (.aload_n 0, 1) := by decide +kernel
theorem d_X8_layout_139 : decode cX8_layout 139 = .ok (.getfield 41, 3) := by decide +kernel
theorem d_X8_layout_142 : decode cX8_layout 142 = .ok (.iload_n 3, 1) := by decide +kernel
theorem d_X8_layout_143 : decode cX8_layout 143 = .ok (.caload, 1) := by decide +kernel
theorem d_X8_layout_144 : decode cX8_layout 144 = .ok (.invokevirtual 201, 3) := by decide +kernel
theorem d_X8_layout_147 : decode cX8_layout 147 = .ok (.iastore, 1) := by decide +kernel
theorem d_X8_layout_148 : decode cX8_layout 148 = .ok (.iinc 2 1, 3) := by decide +kernel
theorem d_X8_layout_151 : decode cX8_layout 151 = .ok (.iinc 3 1, 3) := by decide +kernel
theorem d_X8_layout_154 : decode cX8_layout 154 = .ok (.goto (-42), 3) := by decide +kernel
theorem d_X8_layout_157 : decode cX8_layout 157 = .ok (.iload_n 2, 1) := by decide +kernel
theorem d_X8_layout_158 : decode cX8_layout 158 = .ok (.ireturn, 1) := by decide +kernel
theorem d_X8_faultPosition_0 : decode cX8_faultPosition 0 = .ok (.aload_n 0, 1) := by decide +kernel
theorem d_X8_faultPosition_1 : decode cX8_faultPosition 1 = .ok (.iconst 0, 1) := by decide +kernel
theorem d_X8_faultPosition_2 : decode cX8_faultPosition 2 = .ok (.putfield 49, 3) := by decide +kernel
theorem d_X8_faultPosition_5 : decode cX8_faultPosition 5 = .ok (.aload_n 0, 1) := by decide +kernel
theorem d_X8_faultPosition_6 : decode cX8_faultPosition 6 = .ok (.getfield 45, 3) := by decide +kernel
theorem d_X8_faultPosition_9 : decode cX8_faultPosition 9 = .ok (.ireturn, 1) := by decide +kernel
theorem d_X8_undo_0 : decode cX8_undo 0 = .ok (.aload_n 0, 1) := by decide +kernel
theorem d_X8_undo_1 : decode cX8_undo 1 = .ok (.aload_n 0, 1) := by decide +kernel
theorem d_X8_undo_2 : decode cX8_undo 2 = .ok (.getfield 52, 3) := by decide +kernel
theorem d_X8_undo_5 : decode cX8_undo 5 = .ok (.ifCond .ne 7, 3) := by decide +kernel
theorem d_X8_undo_8 : decode cX8_undo 8 = .ok (.iconst 1, 1) := by decide +kernel
theorem d_X8_undo_9 : decode cX8_undo 9 = .ok (.goto 4, 3) := by decide +kernel
theorem d_X8_undo_12 : decode cX8_undo 12 = .ok (.iconst 0, 1) := by decide +kernel
theorem d_X8_undo_13 : decode cX8_undo 13 = .ok (.putfield 49, 3) := by decide +kernel
theorem d_X8_undo_16 : decode cX8_undo 16 = .ok (.aload_n 0, 1) := by decide +kernel
theorem d_X8_undo_17 : decode cX8_undo 17 = .ok (.getfield 49, 3) := by decide +kernel
theorem d_X8_undo_20 : decode cX8_undo 20 = .ok (.ifCond .le 5, 3) := by decide +kernel
theorem d_X8_undo_23 : decode cX8_undo 23 = .ok (.iconst 0, 1) := by decide +kernel
theorem d_X8_undo_24 : decode cX8_undo 24 = .ok (.ireturn, 1) := by decide +kernel
theorem d_X8_undo_25 : decode cX8_undo 25 = .ok (.aload_n 0, 1) := by decide +kernel
theorem d_X8_undo_26 : decode cX8_undo 26 = .ok (.dup, 1) := by decide +kernel
theorem d_X8_undo_27 : decode cX8_undo 27 = .ok (.getfield 52, 3) := by decide +kernel
theorem d_X8_undo_30 : decode cX8_undo 30 = .ok (.iconst 1, 1) := by decide +kernel
theorem d_X8_undo_31 : decode cX8_undo 31 = .ok (.isub, 1) := by decide +kernel
theorem d_X8_undo_32 : decode cX8_undo 32 = .ok (.putfield 52, 3) := by decide +kernel
theorem d_X8_undo_35 : decode cX8_undo 35 = .ok (.aload_n 0, 1) := by decide +kernel
theorem d_X8_undo_36 : decode cX8_undo 36 = .ok (.getfield 16, 3) := by decide +kernel
theorem d_X8_undo_39 : decode cX8_undo 39 = .ok (.sipush 400, 3) := by decide +kernel
theorem d_X8_undo_42 : decode cX8_undo 42 = .ok (.aload_n 0, 1) := by decide +kernel
theorem d_X8_undo_43 : decode cX8_undo 43 = .ok (.getfield 52, 3) := by decide +kernel
theorem d_X8_undo_46 : decode cX8_undo 46 = .ok (.imul, 1) := by decide +kernel
theorem d_X8_undo_47 : decode cX8_undo 47 = .ok (.aload_n 0, 1) := by decide +kernel
theorem d_X8_undo_48 : decode cX8_undo 48 = .ok (.getfield 9, 3) := by decide +kernel
theorem d_X8_undo_51 : decode cX8_undo 51 = .ok (.iconst 0, 1) := by decide +kernel
theorem d_X8_undo_52 : decode cX8_undo 52 = .ok (.sipush 400, 3) := by decide +kernel
theorem d_X8_undo_55 : decode cX8_undo 55 = .ok (.invokestatic 55, 3) := by decide +kernel
theorem d_X8_undo_58 : decode cX8_undo 58 = .ok (.aload_n 0, 1) := by decide +kernel
theorem d_X8_undo_59 : decode cX8_undo 59 = .ok (.getfield 52, 3) := by decide +kernel
theorem d_X8_undo_62 : decode cX8_undo 62 = .ok (.ireturn, 1) := by decide +kernel
theorem d_X8_save_0 : decode cX8_save 0 = .ok (.aload_n 0, 1) := by decide +kernel
theorem d_X8_save_1 : decode cX8_save 1 = .ok (.iconst 0, 1) := by decide +kernel
theorem d_X8_save_2 : decode cX8_save 2 = .ok (.putfield 49, 3) := by decide +kernel
theorem d_X8_save_5 : decode cX8_save 5 = .ok (.aload_n 0, 1) := by decide +kernel
theorem d_X8_save_6 : decode cX8_save 6 = .ok (.getfield 9, 3) := by decide +kernel
theorem d_X8_save_9 : decode cX8_save 9 = .ok (.iconst 0, 1) := by decide +kernel
theorem d_X8_save_10 : decode cX8_save 10 = .ok (.aload_n 0, 1) := by decide +kernel
theorem d_X8_save_11 : decode cX8_save 11 = .ok (.getfield 13, 3) := by decide +kernel
theorem d_X8_save_14 : decode cX8_save 14 = .ok (.iconst 0, 1) := by decide +kernel
theorem d_X8_save_15 : decode cX8_save 15 = .ok (.sipush 400, 3) := by decide +kernel
theorem d_X8_save_18 : decode cX8_save 18 = .ok (.invokestatic 55, 3) := by decide +kernel
theorem d_X8_save_21 : decode cX8_save 21 = .ok (.aload_n 0, 1) := by decide +kernel
theorem d_X8_save_22 : decode cX8_save 22 = .ok (.iconst 1, 1) := by decide +kernel
theorem d_X8_save_23 : decode cX8_save 23 = .ok (.putfield 207, 3) := by decide +kernel
theorem d_X8_save_26 : decode cX8_save 26 = .ok (.aload_n 0, 1) := by decide +kernel
theorem d_X8_save_27 : decode cX8_save 27 = .ok (.getfield 9, 3) := by decide +kernel
theorem d_X8_save_30 : decode cX8_save 30 = .ok (.iconst 3, 1) := by decide +kernel
theorem d_X8_save_31 : decode cX8_save 31 = .ok (.iaload, 1) := by decide +kernel
theorem d_X8_save_32 : decode cX8_save 32 = .ok (.ireturn, 1) := by decide +kernel
theorem d_X8_restore_0 : decode cX8_restore 0 = .ok (.aload_n 0, 1) := by decide +kernel
theorem d_X8_restore_1 : decode cX8_restore 1 = .ok (.aload_n 0, 1) := by decide +kernel
theorem d_X8_restore_2 : decode cX8_restore 2 = .ok (.getfield 207, 3) := by decide +kernel
theorem d_X8_restore_5 : decode cX8_restore 5 = .ok (.ifCond .eq 7, 3) := by decide +kernel
theorem d_X8_restore_8 : decode cX8_restore 8 = .ok (.iconst 0, 1) := by decide +kernel
theorem d_X8_restore_9 : decode cX8_restore 9 = .ok (.goto 4, 3) := by decide +kernel
theorem d_X8_restore_12 : decode cX8_restore 12 = .ok (.iconst 1, 1) := by decide +kernel
theorem d_X8_restore_13 : decode cX8_restore 13 = .ok (.putfield 49, 3) := by decide +kernel
theorem d_X8_restore_16 : decode cX8_restore 16 = .ok (.aload_n 0, 1) := by decide +kernel
theorem d_X8_restore_17 : decode cX8_restore 17 = .ok (.getfield 49, 3) := by decide +kernel
theorem d_X8_restore_20 : decode cX8_restore 20 = .ok (.ifCond .le 5, 3) := by decide +kernel
theorem d_X8_restore_23 : decode cX8_restore 23 = .ok (.iconst 0, 1) := by decide +kernel
theorem d_X8_restore_24 : decode cX8_restore 24 = .ok (.ireturn, 1) := by decide +kernel
theorem d_X8_restore_25 : decode cX8_restore 25 = .ok (.aload_n 0, 1) := by decide +kernel
theorem d_X8_restore_26 : decode cX8_restore 26 = .ok (.getfield 13, 3) := by decide +kernel
theorem d_X8_restore_29 : decode cX8_restore 29 = .ok (.iconst 0, 1) := by decide +kernel
theorem d_X8_restore_30 : decode cX8_restore 30 = .ok (.aload_n 0, 1) := by decide +kernel
theorem d_X8_restore_31 : decode cX8_restore 31 = .ok (.getfield 9, 3) := by decide +kernel
theorem d_X8_restore_34 : decode cX8_restore 34 = .ok (.iconst 0, 1) := by decide +kernel
theorem d_X8_restore_35 : decode cX8_restore 35 = .ok (.sipush 400, 3) := by decide +kernel
theorem d_X8_restore_38 : decode cX8_restore 38 = .ok (.invokestatic 55, 3) := by decide +kernel
theorem d_X8_restore_41 : decode cX8_restore 41 = .ok (.aload_n 0, 1) := by decide +kernel
theorem d_X8_restore_42 : decode cX8_restore 42 = .ok (.iconst 0, 1) := by decide +kernel
theorem d_X8_restore_43 : decode cX8_restore 43 = .ok (.putfield 52, 3) := by decide +kernel
theorem d_X8_restore_46 : decode cX8_restore 46 = .ok (.aload_n 0, 1) := by decide +kernel
theorem d_X8_restore_47 : decode cX8_restore 47 = .ok (.getfield 9, 3) := by decide +kernel
theorem d_X8_restore_50 : decode cX8_restore 50 = .ok (.iconst 3, 1) := by decide +kernel
theorem d_X8_restore_51 : decode cX8_restore 51 = .ok (.iaload, 1) := by decide +kernel
theorem d_X8_restore_52 : decode cX8_restore 52 = .ok (.ireturn, 1) := by decide +kernel
