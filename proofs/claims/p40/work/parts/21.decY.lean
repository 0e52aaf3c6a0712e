/-! decode rows (printed by program) -/
theorem d_X7_init_0 : decode cX7_init 0 = .ok (.aload_n 0, 1) := by decide +kernel
theorem d_X7_init_1 : decode cX7_init 1 = .ok (.invokespecial 3, 3) := by decide +kernel
theorem d_X7_init_4 : decode cX7_init 4 = .ok (.aload_n 0, 1) := by decide +kernel
theorem d_X7_init_5 : decode cX7_init 5 = .ok (.new 9, 3) := by decide +kernel
theorem d_X7_init_8 : decode cX7_init 8 = .ok (.dup, 1) := by decide +kernel
theorem d_X7_init_9 : decode cX7_init 9 = .ok (.invokespecial 11, 3) := by decide +kernel
theorem d_X7_init_12 : decode cX7_init 12 = .ok (.putfield 12, 3) := by decide +kernel
theorem d_X7_init_15 : decode cX7_init 15 = .ok (.aload_n 0, 1) := by decide +kernel
theorem d_X7_init_16 : decode cX7_init 16 = .ok (.new 9, 3) := by decide +kernel
theorem d_X7_init_19 : decode cX7_init 19 = .ok (.dup, 1) := by decide +kernel
theorem d_X7_init_20 : decode cX7_init 20 = .ok (.invokespecial 11, 3) := by decide +kernel
theorem d_X7_init_23 : decode cX7_init 23 = .ok (.putfield 16, 3) := by decide +kernel
theorem d_X7_init_26 : decode cX7_init 26 = .ok (.aload_n 0, 1) := by decide +kernel
theorem d_X7_init_27 : decode cX7_init 27 = .ok (.new 19, 3) := by decide +kernel
theorem d_X7_init_30 : decode cX7_init 30 = .ok (.dup, 1) := by decide +kernel
theorem d_X7_init_31 : decode cX7_init 31 = .ok (.invokespecial 21, 3) := by decide +kernel
theorem d_X7_init_34 : decode cX7_init 34 = .ok (.putfield 22, 3) := by decide +kernel
theorem d_X7_init_37 : decode cX7_init 37 = .ok (.aload_n 0, 1) := by decide +kernel
theorem d_X7_init_38 : decode cX7_init 38 = .ok (.new 26, 3) := by decide +kernel
theorem d_X7_init_41 : decode cX7_init 41 = .ok (.dup, 1) := by decide +kernel
theorem d_X7_init_42 : decode cX7_init 42 = .ok (.invokespecial 28, 3) := by decide +kernel
theorem d_X7_init_45 : decode cX7_init 45 = .ok (.putfield 29, 3) := by decide +kernel
theorem d_X7_init_48 : decode cX7_init 48 = .ok (.aload_n 0, 1) := by decide +kernel
theorem d_X7_init_49 : decode cX7_init 49 = .ok (.new 33, 3) := by decide +kernel
theorem d_X7_init_52 : decode cX7_init 52 = .ok (.dup, 1) := by decide +kernel
theorem d_X7_init_53 : decode cX7_init 53 = .ok (.aload_n 0, 1) := by decide +kernel
theorem d_X7_init_54 : decode cX7_init 54 = .ok (.getfield 12, 3) := by decide +kernel
theorem d_X7_init_57 : decode cX7_init 57 = .ok (.invokespecial 35, 3) := by decide +kernel
theorem d_X7_init_60 : decode cX7_init 60 = .ok (.putfield 38, 3) := by decide +kernel
theorem d_X7_init_63 : decode cX7_init 63 = .ok (.aload_n 0, 1) := by decide +kernel
theorem d_X7_init_64 : decode cX7_init 64 = .ok (.new 42, 3) := by decide +kernel
theorem d_X7_init_67 : decode cX7_init 67 = .ok (.dup, 1) := by decide +kernel
theorem d_X7_init_68 : decode cX7_init 68 = .ok (.aload_n 0, 1) := by decide +kernel
theorem d_X7_init_69 : decode cX7_init 69 = .ok (.getfield 12, 3) := by decide +kernel
theorem d_X7_init_72 : decode cX7_init 72 = .ok (.invokespecial 44, 3) := by decide +kernel
theorem d_X7_init_75 : decode cX7_init 75 = .ok (.putfield 45, 3) := by decide +kernel
theorem d_X7_init_78 : decode cX7_init 78 = .ok (.aload_n 0, 1) := by decide +kernel
theorem d_X7_init_79 : decode cX7_init 79 = .ok (.iconst 0, 1) := by decide +kernel
theorem d_X7_init_80 : decode cX7_init 80 = .ok (.putfield 49, 3) := by decide +kernel
theorem d_X7_init_83 : decode cX7_init 83 = .ok (.aload_n 0, 1) := by decide +kernel
theorem d_X7_init_84 : decode cX7_init 84 = .ok (.iconst (-1), 1) := by decide +kernel
theorem d_X7_init_85 : decode cX7_init 85 = .ok (.putfield 53, 3) := by decide +kernel
theorem d_X7_init_88 : decode cX7_init 88 = .ok (.aload_n 0, 1) := by decide +kernel
theorem d_X7_init_89 : decode cX7_init 89 = .ok (.iconst (-1), 1) := by decide +kernel
theorem d_X7_init_90 : decode cX7_init 90 = .ok (.putfield 57, 3) := by decide +kernel
theorem d_X7_init_93 : decode cX7_init 93 = .ok (.aload_n 0, 1) := by decide +kernel
theorem d_X7_init_94 : decode cX7_init 94 = .ok (.iconst 0, 1) := by decide +kernel
theorem d_X7_init_95 : decode cX7_init 95 = .ok (.putfield 60, 3) := by decide +kernel
theorem d_X7_init_98 : decode cX7_init 98 = .ok (.return_, 1) := by decide +kernel
theorem d_X7_append_0 : decode cX7_append 0 = .ok (.aload_n 0, 1) := by decide +kernel
theorem d_X7_append_1 : decode cX7_append 1 = .ok (.getfield 29, 3) := by decide +kernel
theorem d_X7_append_4 : decode cX7_append 4 = .ok (.invokevirtual 63, 3) := by decide +kernel
theorem d_X7_append_7 : decode cX7_append 7 = .ok (.ifCond .eq 11, 3) := by decide +kernel
theorem d_X7_append_10 : decode cX7_append 10 = .ok (.new 67, 3) := by decide +kernel
theorem d_X7_append_13 : decode cX7_append 13 = .ok (.dup, 1) := by decide +kernel
theorem d_X7_append_14 : decode cX7_append 14 = .ok (.invokespecial 69, 3) := by decide +kernel
theorem d_X7_append_17 : decode cX7_append 17 = .ok (.athrow, 1) := by decide +kernel
theorem d_X7_append_18 : decode cX7_append 18 = .ok (.aload_n 0, 1) := by decide +kernel
theorem d_X7_append_19 : decode cX7_append 19 = .ok (.getfield 29, 3) := by decide +kernel
theorem d_X7_append_22 : decode cX7_append 22 = .ok (.iload_n 1, 1) := by decide +kernel
theorem d_X7_append_23 : decode cX7_append 23 = .ok (.invokevirtual 70, 3) := by decide +kernel
theorem d_X7_append_26 : decode cX7_append 26 = .ok (.aload_n 0, 1) := by decide +kernel
theorem d_X7_append_27 : decode cX7_append 27 = .ok (.getfield 29, 3) := by decide +kernel
theorem d_X7_append_30 : decode cX7_append 30 = .ok (.getfield 74, 3) := by decide +kernel
theorem d_X7_append_33 : decode cX7_append 33 = .ok (.ireturn, 1) := by decide +kernel
theorem d_X7_layout_0 : decode cX7_layout 0 = .ok (.aload_n 0, 1) := by decide +kernel
theorem d_X7_layout_1 : decode cX7_layout 1 = .ok (.aload_n 0, 1) := by decide +kernel
theorem d_X7_layout_2 : decode cX7_layout 2 = .ok (.getfield 29, 3) := by decide +kernel
theorem d_X7_layout_5 : decode cX7_layout 5 = .ok (.invokevirtual 77, 3) := by decide +kernel
theorem d_X7_layout_8 : decode cX7_layout 8 = .ok (.putfield 53, 3) := by decide +kernel
theorem d_X7_layout_11 : decode cX7_layout 11 = .ok (.aload_n 0, 1) := by decide +kernel
theorem d_X7_layout_12 : decode cX7_layout 12 = .ok (.getfield 53, 3) := by decide +kernel
theorem d_X7_layout_15 : decode cX7_layout 15 = .ok (.iconst (-1), 1) := by decide +kernel
theorem d_X7_layout_16 : decode cX7_layout 16 = .ok (.if_icmp .eq 19, 3) := by decide +kernel
theorem d_X7_layout_19 : decode cX7_layout 19 = .ok (.aload_n 0, 1) := by decide +kernel
theorem d_X7_layout_20 : decode cX7_layout 20 = .ok (.getfield 29, 3) := by decide +kernel
theorem d_X7_layout_23 : decode cX7_layout 23 = .ok (.iconst 0, 1) := by decide +kernel
theorem d_X7_layout_24 : decode cX7_layout 24 = .ok (.putfield 74, 3) := by decide +kernel
theorem d_X7_layout_27 : decode cX7_layout 27 = .ok (.new 81, 3) := by decide +kernel
theorem d_X7_layout_30 : decode cX7_layout 30 = .ok (.dup, 1) := by decide +kernel
theorem d_X7_layout_31 : decode cX7_layout 31 = .ok (.invokespecial 83, 3) := by decide +kernel
theorem d_X7_layout_34 : decode cX7_layout 34 = .ok (.athrow, 1) := by decide +kernel
theorem d_X7_layout_35 : decode cX7_layout 35 = .ok (.aload_n 0, 1) := by decide +kernel
theorem d_X7_layout_36 : decode cX7_layout 36 = .ok (.getfield 22, 3) := by decide +kernel
theorem d_X7_layout_39 : decode cX7_layout 39 = .ok (.aload_n 0, 1) := by decide +kernel
theorem d_X7_layout_40 : decode cX7_layout 40 = .ok (.getfield 12, 3) := by decide +kernel
theorem d_X7_layout_43 : decode cX7_layout 43 = .ok (.invokevirtual 84, 3) := by decide +kernel
theorem d_X7_layout_46 : decode cX7_layout 46 = .ok (.aload_n 0, 1) := by decide +kernel
theorem d_X7_layout_47 : decode cX7_layout 47 = .ok (.getfield 12, 3) := by decide +kernel
theorem d_X7_layout_50 : decode cX7_layout 50 = .ok (.aload_n 0, 1) := by decide +kernel
theorem d_X7_layout_51 : decode cX7_layout 51 = .ok (.getfield 29, 3) := by decide +kernel
theorem d_X7_layout_54 : decode cX7_layout 54 = .ok (.invokevirtual 87, 3) := by decide +kernel
theorem d_X7_layout_57 : decode cX7_layout 57 = .ok (.aload_n 0, 1) := by decide +kernel
theorem d_X7_layout_58 : decode cX7_layout 58 = .ok (.getfield 29, 3) := by decide +kernel
theorem d_X7_layout_61 : decode cX7_layout 61 = .ok (.iconst 0, 1) := by decide +kernel
theorem d_X7_layout_62 : decode cX7_layout 62 = .ok (.putfield 74, 3) := by decide +kernel
theorem d_X7_layout_65 : decode cX7_layout 65 = .ok (.aload_n 0, 1) := by decide +kernel
theorem d_X7_layout_66 : decode cX7_layout 66 = .ok (.getfield 12, 3) := by decide +kernel
theorem d_X7_layout_69 : decode cX7_layout 69 = .ok (.invokevirtual 91, 3) := by decide +kernel
theorem d_X7_layout_72 : decode cX7_layout 72 = .ok (.ireturn, 1) := by decide +kernel
theorem d_X7_add_0 : decode cX7_add 0 = .ok (.aload_n 0, 1) := by decide +kernel
theorem d_X7_add_1 : decode cX7_add 1 = .ok (.iload_n 1, 1) := by decide +kernel
theorem d_X7_add_2 : decode cX7_add 2 = .ok (.iload_n 2, 1) := by decide +kernel
theorem d_X7_add_3 : decode cX7_add 3 = .ok (.invokevirtual 94, 3) := by decide +kernel
theorem d_X7_add_6 : decode cX7_add 6 = .ok (.ifCond .eq 11, 3) := by decide +kernel
theorem d_X7_add_9 : decode cX7_add 9 = .ok (.new 98, 3) := by decide +kernel
theorem d_X7_add_12 : decode cX7_add 12 = .ok (.dup, 1) := by decide +kernel
theorem d_X7_add_13 : decode cX7_add 13 = .ok (.invokespecial 100, 3) := by decide +kernel
theorem d_X7_add_16 : decode cX7_add 16 = .ok (.athrow, 1) := by decide +kernel
theorem d_X7_add_17 : decode cX7_add 17 = .ok (.aload_n 0, 1) := by decide +kernel
theorem d_X7_add_18 : decode cX7_add 18 = .ok (.getfield 22, 3) := by decide +kernel
theorem d_X7_add_21 : decode cX7_add 21 = .ok (.aload_n 0, 1) := by decide +kernel
theorem d_X7_add_22 : decode cX7_add 22 = .ok (.getfield 12, 3) := by decide +kernel
theorem d_X7_add_25 : decode cX7_add 25 = .ok (.invokevirtual 84, 3) := by decide +kernel
theorem d_X7_add_28 : decode cX7_add 28 = .ok (.aload_n 0, 1) := by decide +kernel
theorem d_X7_add_29 : decode cX7_add 29 = .ok (.getfield 12, 3) := by decide +kernel
theorem d_X7_add_32 : decode cX7_add 32 = .ok (.iload_n 1, 1) := by decide +kernel
theorem d_X7_add_33 : decode cX7_add 33 = .ok (.iload_n 2, 1) := by decide +kernel
theorem d_X7_add_34 : decode cX7_add 34 = .ok (.invokevirtual 101, 3) := by decide +kernel
theorem d_X7_add_37 : decode cX7_add 37 = .ok (.ireturn, 1) := by decide +kernel
theorem d_X7_refusesAdd_0 : decode cX7_refusesAdd 0 = .ok (.aload_n 0, 1) := by decide +kernel
theorem d_X7_refusesAdd_1 : decode cX7_refusesAdd 1 = .ok (.getfield 12, 3) := by decide +kernel
theorem d_X7_refusesAdd_4 : decode cX7_refusesAdd 4 = .ok (.iload_n 1, 1) := by decide +kernel
theorem d_X7_refusesAdd_5 : decode cX7_refusesAdd 5 = .ok (.invokevirtual 105, 3) := by decide +kernel
theorem d_X7_refusesAdd_8 : decode cX7_refusesAdd 8 = .ok (.ifCond .ne 10, 3) := by decide +kernel
theorem d_X7_refusesAdd_11 : decode cX7_refusesAdd 11 = .ok (.aload_n 0, 1) := by decide +kernel
theorem d_X7_refusesAdd_12 : decode cX7_refusesAdd 12 = .ok (.iconst 1, 1) := by decide +kernel
theorem d_X7_refusesAdd_13 : decode cX7_refusesAdd 13 = .ok (.iconst 0, 1) := by decide +kernel
theorem d_X7_refusesAdd_14 : decode cX7_refusesAdd 14 = .ok (.invokevirtual 109, 3) := by decide +kernel
theorem d_X7_refusesAdd_17 : decode cX7_refusesAdd 17 = .ok (.ireturn, 1) := by decide +kernel
theorem d_X7_refusesAdd_18 : decode cX7_refusesAdd 18 = .ok (.iload_n 2, 1) := by decide +kernel
theorem d_X7_refusesAdd_19 : decode cX7_refusesAdd 19 = .ok (.ifCond .lt 9, 3) := by decide +kernel
theorem d_X7_refusesAdd_22 : decode cX7_refusesAdd 22 = .ok (.iload_n 2, 1) := by decide +kernel
theorem d_X7_refusesAdd_23 : decode cX7_refusesAdd 23 = .ok (.bipush 99, 2) := by decide +kernel
theorem d_X7_refusesAdd_25 : decode cX7_refusesAdd 25 = .ok (.if_icmp .le 10, 3) := by decide +kernel
theorem d_X7_refusesAdd_28 : decode cX7_refusesAdd 28 = .ok (.aload_n 0, 1) := by decide +kernel
theorem d_X7_refusesAdd_29 : decode cX7_refusesAdd 29 = .ok (.iconst 2, 1) := by decide +kernel
theorem d_X7_refusesAdd_30 : decode cX7_refusesAdd 30 = .ok (.iconst 0, 1) := by decide +kernel
theorem d_X7_refusesAdd_31 : decode cX7_refusesAdd 31 = .ok (.invokevirtual 109, 3) := by decide +kernel
theorem d_X7_refusesAdd_34 : decode cX7_refusesAdd 34 = .ok (.ireturn, 1) := by decide +kernel
theorem d_X7_refusesAdd_35 : decode cX7_refusesAdd 35 = .ok (.aload_n 0, 1) := by decide +kernel
theorem d_X7_refusesAdd_36 : decode cX7_refusesAdd 36 = .ok (.getfield 12, 3) := by decide +kernel
theorem d_X7_refusesAdd_39 : decode cX7_refusesAdd 39 = .ok (.getfield 112, 3) := by decide +kernel
theorem d_X7_refusesAdd_42 : decode cX7_refusesAdd 42 = .ok (.bipush 6, 2) := by decide +kernel
theorem d_X7_refusesAdd_44 : decode cX7_refusesAdd 44 = .ok (.if_icmp .lt 10, 3) := by decide +kernel
theorem d_X7_refusesAdd_47 : decode cX7_refusesAdd 47 = .ok (.aload_n 0, 1) := by decide +kernel
theorem d_X7_refusesAdd_48 : decode cX7_refusesAdd 48 = .ok (.iconst 3, 1) := by decide +kernel
theorem d_X7_refusesAdd_49 : decode cX7_refusesAdd 49 = .ok (.iconst 0, 1) := by decide +kernel
theorem d_X7_refusesAdd_50 : decode cX7_refusesAdd 50 = .ok (.invokevirtual 109, 3) := by decide +kernel
theorem d_X7_refusesAdd_53 : decode cX7_refusesAdd 53 = .ok (.ireturn, 1) := by decide +kernel
theorem d_X7_refusesAdd_54 : decode cX7_refusesAdd 54 = .ok (.aload_n 0, 1) := by decide +kernel
theorem d_X7_refusesAdd_55 : decode cX7_refusesAdd 55 = .ok (.getfield 12, 3) := by decide +kernel
theorem d_X7_refusesAdd_58 : decode cX7_refusesAdd 58 = .ok (.iload_n 1, 1) := by decide +kernel
theorem d_X7_refusesAdd_59 : decode cX7_refusesAdd 59 = .ok (.invokevirtual 115, 3) := by decide +kernel
theorem d_X7_refusesAdd_62 : decode cX7_refusesAdd 62 = .ok (.ifCond .ne 10, 3) := by decide +kernel
theorem d_X7_refusesAdd_65 : decode cX7_refusesAdd 65 = .ok (.aload_n 0, 1) := by decide +kernel
theorem d_X7_refusesAdd_66 : decode cX7_refusesAdd 66 = .ok (.iconst 4, 1) := by decide +kernel
theorem d_X7_refusesAdd_67 : decode cX7_refusesAdd 67 = .ok (.iload_n 1, 1) := by decide +kernel
theorem d_X7_refusesAdd_68 : decode cX7_refusesAdd 68 = .ok (.invokevirtual 109, 3) := by decide +kernel
theorem d_X7_refusesAdd_71 : decode cX7_refusesAdd 71 = .ok (.ireturn, 1) := by decide +kernel
theorem d_X7_refusesAdd_72 : decode cX7_refusesAdd 72 = .ok (.aload_n 0, 1) := by decide +kernel
theorem d_X7_refusesAdd_73 : decode cX7_refusesAdd 73 = .ok (.iload_n 1, 1) := by decide +kernel
theorem d_X7_refusesAdd_74 : decode cX7_refusesAdd 74 = .ok (.iconst (-1), 1) := by decide +kernel
theorem d_X7_refusesAdd_75 : decode cX7_refusesAdd 75 = .ok (.invokevirtual 118, 3) := by decide +kernel
theorem d_X7_refusesAdd_78 : decode cX7_refusesAdd 78 = .ok (.ireturn, 1) := by decide +kernel
theorem d_X7_takeOff_0 : decode cX7_takeOff 0 = .ok (.aload_n 0, 1) := by decide +kernel
theorem d_X7_takeOff_1 : decode cX7_takeOff 1 = .ok (.iload_n 1, 1) := by decide +kernel
theorem d_X7_takeOff_2 : decode cX7_takeOff 2 = .ok (.invokevirtual 121, 3) := by decide +kernel
theorem d_X7_takeOff_5 : decode cX7_takeOff 5 = .ok (.ifCond .eq 11, 3) := by decide +kernel
theorem d_X7_takeOff_8 : decode cX7_takeOff 8 = .ok (.new 98, 3) := by decide +kernel
theorem d_X7_takeOff_11 : decode cX7_takeOff 11 = .ok (.dup, 1) := by decide +kernel
theorem d_X7_takeOff_12 : decode cX7_takeOff 12 = .ok (.invokespecial 100, 3) := by decide +kernel
theorem d_X7_takeOff_15 : decode cX7_takeOff 15 = .ok (.athrow, 1) := by decide +kernel
theorem d_X7_takeOff_16 : decode cX7_takeOff 16 = .ok (.aload_n 0, 1) := by decide +kernel
theorem d_X7_takeOff_17 : decode cX7_takeOff 17 = .ok (.getfield 22, 3) := by decide +kernel
theorem d_X7_takeOff_20 : decode cX7_takeOff 20 = .ok (.aload_n 0, 1) := by decide +kernel
theorem d_X7_takeOff_21 : decode cX7_takeOff 21 = .ok (.getfield 12, 3) := by decide +kernel
theorem d_X7_takeOff_24 : decode cX7_takeOff 24 = .ok (.invokevirtual 84, 3) := by decide +kernel
theorem d_X7_takeOff_27 : decode cX7_takeOff 27 = .ok (.aload_n 0, 1) := by decide +kernel
theorem d_X7_takeOff_28 : decode cX7_takeOff 28 = .ok (.getfield 12, 3) := by decide +kernel
theorem d_X7_takeOff_31 : decode cX7_takeOff 31 = .ok (.iload_n 1, 1) := by decide +kernel
theorem d_X7_takeOff_32 : decode cX7_takeOff 32 = .ok (.invokevirtual 124, 3) := by decide +kernel
theorem d_X7_takeOff_35 : decode cX7_takeOff 35 = .ok (.aload_n 0, 1) := by decide +kernel
theorem d_X7_takeOff_36 : decode cX7_takeOff 36 = .ok (.getfield 12, 3) := by decide +kernel
theorem d_X7_takeOff_39 : decode cX7_takeOff 39 = .ok (.getfield 112, 3) := by decide +kernel
theorem d_X7_takeOff_42 : decode cX7_takeOff 42 = .ok (.ireturn, 1) := by decide +kernel
theorem d_X7_refusesTakeOff_0 : decode cX7_refusesTakeOff 0 = .ok (.aload_n 0, 1) := by decide +kernel
theorem d_X7_refusesTakeOff_1 : decode cX7_refusesTakeOff 1 = .ok (.getfield 12, 3) := by decide +kernel
theorem d_X7_refusesTakeOff_4 : decode cX7_refusesTakeOff 4 = .ok (.iload_n 1, 1) := by decide +kernel
theorem d_X7_refusesTakeOff_5 : decode cX7_refusesTakeOff 5 = .ok (.invokevirtual 128, 3) := by decide +kernel
theorem d_X7_refusesTakeOff_8 : decode cX7_refusesTakeOff 8 = .ok (.ifCond .ne 10, 3) := by decide +kernel
theorem d_X7_refusesTakeOff_11 : decode cX7_refusesTakeOff 11 = .ok (.aload_n 0, 1) := by decide +kernel
theorem d_X7_refusesTakeOff_12 : decode cX7_refusesTakeOff 12 = .ok (.iconst 1, 1) := by decide +kernel
theorem d_X7_refusesTakeOff_13 : decode cX7_refusesTakeOff 13 = .ok (.iconst 0, 1) := by decide +kernel
theorem d_X7_refusesTakeOff_14 : decode cX7_refusesTakeOff 14 = .ok (.invokevirtual 109, 3) := by decide +kernel
theorem d_X7_refusesTakeOff_17 : decode cX7_refusesTakeOff 17 = .ok (.ireturn, 1) := by decide +kernel
theorem d_X7_refusesTakeOff_18 : decode cX7_refusesTakeOff 18 = .ok (.aload_n 0, 1) := by decide +kernel
theorem d_X7_refusesTakeOff_19 : decode cX7_refusesTakeOff 19 = .ok (.getfield 12, 3) := by decide +kernel
theorem d_X7_refusesTakeOff_22 : decode cX7_refusesTakeOff 22 = .ok (.getfield 131, 3) := by decide +kernel
theorem d_X7_refusesTakeOff_25 : decode cX7_refusesTakeOff 25 = .ok (.iload_n 1, 1) := by decide +kernel
theorem d_X7_refusesTakeOff_26 : decode cX7_refusesTakeOff 26 = .ok (.aaload, 1) := by decide +kernel
theorem d_X7_refusesTakeOff_27 : decode cX7_refusesTakeOff 27 = .ok (.getfield 135, 3) := by decide +kernel
theorem d_X7_refusesTakeOff_30 : decode cX7_refusesTakeOff 30 = .ok (.iconst (-1), 1) := by decide +kernel
theorem d_X7_refusesTakeOff_31 : decode cX7_refusesTakeOff 31 = .ok (.if_icmp .eq 22, 3) := by decide +kernel
theorem d_X7_refusesTakeOff_34 : decode cX7_refusesTakeOff 34 = .ok (.aload_n 0, 1) := by decide +kernel
theorem d_X7_refusesTakeOff_35 : decode cX7_refusesTakeOff 35 = .ok (.bipush 7, 2) := by decide +kernel
theorem d_X7_refusesTakeOff_37 : decode cX7_refusesTakeOff 37 = .ok (.aload_n 0, 1) := by decide +kernel
theorem d_X7_refusesTakeOff_38 : decode cX7_refusesTakeOff 38 = .ok (.getfield 12, 3) := by decide +kernel
theorem d_X7_refusesTakeOff_41 : decode cX7_refusesTakeOff 41 = .ok (.getfield 131, 3) := by decide +kernel
theorem d_X7_refusesTakeOff_44 : decode cX7_refusesTakeOff 44 = .ok (.iload_n 1, 1) := by decide +kernel
theorem d_X7_refusesTakeOff_45 : decode cX7_refusesTakeOff 45 = .ok (.aaload, 1) := by decide +kernel
theorem d_X7_refusesTakeOff_46 : decode cX7_refusesTakeOff 46 = .ok (.getfield 135, 3) := by decide +kernel
theorem d_X7_refusesTakeOff_49 : decode cX7_refusesTakeOff 49 = .ok (.invokevirtual 109, 3) := by decide +kernel
theorem d_X7_refusesTakeOff_52 : decode cX7_refusesTakeOff 52 = .ok (.ireturn, 1) := by decide +kernel
theorem d_X7_refusesTakeOff_53 : decode cX7_refusesTakeOff 53 = .ok (.iconst 0, 1) := by decide +kernel
theorem d_X7_refusesTakeOff_54 : decode cX7_refusesTakeOff 54 = .ok (.ireturn, 1) := by decide +kernel
theorem d_X7_order_0 : decode cX7_order 0 = .ok (.aload_n 0, 1) := by decide +kernel
theorem d_X7_order_1 : decode cX7_order 1 = .ok (.iload_n 1, 1) := by decide +kernel
theorem d_X7_order_2 : decode cX7_order 2 = .ok (.iload_n 2, 1) := by decide +kernel
theorem d_X7_order_3 : decode cX7_order 3 = .ok (.iload_n 3, 1) := by decide +kernel
theorem d_X7_order_4 : decode cX7_order 4 = .ok (.iload 4, 2) := by decide +kernel
theorem d_X7_order_6 : decode cX7_order 6 = .ok (.invokevirtual 140, 3) := by decide +kernel
theorem d_X7_order_9 : decode cX7_order 9 = .ok (.ifCond .eq 11, 3) := by decide +kernel
theorem d_X7_order_12 : decode cX7_order 12 = .ok (.new 98, 3) := by decide +kernel
theorem d_X7_order_15 : decode cX7_order 15 = .ok (.dup, 1) := by decide +kernel
theorem d_X7_order_16 : decode cX7_order 16 = .ok (.invokespecial 100, 3) := by decide +kernel
theorem d_X7_order_19 : decode cX7_order 19 = .ok (.athrow, 1) := by decide +kernel
theorem d_X7_order_20 : decode cX7_order 20 = .ok (.aload_n 0, 1) := by decide +kernel
theorem d_X7_order_21 : decode cX7_order 21 = .ok (.getfield 22, 3) := by decide +kernel
theorem d_X7_order_24 : decode cX7_order 24 = .ok (.aload_n 0, 1) := by decide +kernel
theorem d_X7_order_25 : decode cX7_order 25 = .ok (.getfield 12, 3) := by decide +kernel
theorem d_X7_order_28 : decode cX7_order 28 = .ok (.invokevirtual 84, 3) := by decide +kernel
theorem d_X7_order_31 : decode cX7_order 31 = .ok (.aload_n 0, 1) := by decide +kernel
theorem d_X7_order_32 : decode cX7_order 32 = .ok (.getfield 12, 3) := by decide +kernel
theorem d_X7_order_35 : decode cX7_order 35 = .ok (.iload_n 1, 1) := by decide +kernel
theorem d_X7_order_36 : decode cX7_order 36 = .ok (.iload_n 2, 1) := by decide +kernel
theorem d_X7_order_37 : decode cX7_order 37 = .ok (.iload_n 3, 1) := by decide +kernel
theorem d_X7_order_38 : decode cX7_order 38 = .ok (.iload 4, 2) := by decide +kernel
theorem d_X7_order_40 : decode cX7_order 40 = .ok (.invokevirtual 144, 3) := by decide +kernel
theorem d_X7_order_43 : decode cX7_order 43 = .ok (.ireturn, 1) := by decide +kernel
theorem d_X7_refusesOrder_0 : decode cX7_refusesOrder 0 = .ok (.aload_n 0, 1) := by decide +kernel
theorem d_X7_refusesOrder_1 : decode cX7_refusesOrder 1 = .ok (.getfield 12, 3) := by decide +kernel
theorem d_X7_refusesOrder_4 : decode cX7_refusesOrder 4 = .ok (.iload_n 2, 1) := by decide +kernel
theorem d_X7_refusesOrder_5 : decode cX7_refusesOrder 5 = .ok (.invokevirtual 105, 3) := by decide +kernel
theorem d_X7_refusesOrder_8 : decode cX7_refusesOrder 8 = .ok (.ifCond .eq 26, 3) := by decide +kernel
theorem d_X7_refusesOrder_11 : decode cX7_refusesOrder 11 = .ok (.aload_n 0, 1) := by decide +kernel
theorem d_X7_refusesOrder_12 : decode cX7_refusesOrder 12 = .ok (.getfield 12, 3) := by decide +kernel
theorem d_X7_refusesOrder_15 : decode cX7_refusesOrder 15 = .ok (.iload_n 3, 1) := by decide +kernel
theorem d_X7_refusesOrder_16 : decode cX7_refusesOrder 16 = .ok (.invokevirtual 148, 3) := by decide +kernel
theorem d_X7_refusesOrder_19 : decode cX7_refusesOrder 19 = .ok (.ifCond .eq 15, 3) := by decide +kernel
theorem d_X7_refusesOrder_22 : decode cX7_refusesOrder 22 = .ok (.aload_n 0, 1) := by decide +kernel
theorem d_X7_refusesOrder_23 : decode cX7_refusesOrder 23 = .ok (.getfield 12, 3) := by decide +kernel
theorem d_X7_refusesOrder_26 : decode cX7_refusesOrder 26 = .ok (.iload 4, 2) := by decide +kernel
theorem d_X7_refusesOrder_28 : decode cX7_refusesOrder 28 = .ok (.invokevirtual 148, 3) := by decide +kernel
theorem d_X7_refusesOrder_31 : decode cX7_refusesOrder 31 = .ok (.ifCond .ne 10, 3) := by decide +kernel
theorem d_X7_refusesOrder_34 : decode cX7_refusesOrder 34 = .ok (.aload_n 0, 1) := by decide +kernel
theorem d_X7_refusesOrder_35 : decode cX7_refusesOrder 35 = .ok (.iconst 1, 1) := by decide +kernel
theorem d_X7_refusesOrder_36 : decode cX7_refusesOrder 36 = .ok (.iconst 0, 1) := by decide +kernel
theorem d_X7_refusesOrder_37 : decode cX7_refusesOrder 37 = .ok (.invokevirtual 109, 3) := by decide +kernel
theorem d_X7_refusesOrder_40 : decode cX7_refusesOrder 40 = .ok (.ireturn, 1) := by decide +kernel
theorem d_X7_refusesOrder_41 : decode cX7_refusesOrder 41 = .ok (.iload_n 1, 1) := by decide +kernel
theorem d_X7_refusesOrder_42 : decode cX7_refusesOrder 42 = .ok (.ifCond .lt 21, 3) := by decide +kernel
theorem d_X7_refusesOrder_45 : decode cX7_refusesOrder 45 = .ok (.iload_n 1, 1) := by decide +kernel
theorem d_X7_refusesOrder_46 : decode cX7_refusesOrder 46 = .ok (.sipush 999, 3) := by decide +kernel
theorem d_X7_refusesOrder_49 : decode cX7_refusesOrder 49 = .ok (.if_icmp .gt 14, 3) := by decide +kernel
theorem d_X7_refusesOrder_52 : decode cX7_refusesOrder 52 = .ok (.iload_n 3, 1) := by decide +kernel
theorem d_X7_refusesOrder_53 : decode cX7_refusesOrder 53 = .ok (.iconst (-1), 1) := by decide +kernel
theorem d_X7_refusesOrder_54 : decode cX7_refusesOrder 54 = .ok (.if_icmp .ne 16, 3) := by decide +kernel
theorem d_X7_refusesOrder_57 : decode cX7_refusesOrder 57 = .ok (.iload 4, 2) := by decide +kernel
theorem d_X7_refusesOrder_59 : decode cX7_refusesOrder 59 = .ok (.iconst (-1), 1) := by decide +kernel
theorem d_X7_refusesOrder_60 : decode cX7_refusesOrder 60 = .ok (.if_icmp .eq 10, 3) := by decide +kernel
theorem d_X7_refusesOrder_63 : decode cX7_refusesOrder 63 = .ok (.aload_n 0, 1) := by decide +kernel
theorem d_X7_refusesOrder_64 : decode cX7_refusesOrder 64 = .ok (.iconst 2, 1) := by decide +kernel
theorem d_X7_refusesOrder_65 : decode cX7_refusesOrder 65 = .ok (.iconst 0, 1) := by decide +kernel
theorem d_X7_refusesOrder_66 : decode cX7_refusesOrder 66 = .ok (.invokevirtual 109, 3) := by decide +kernel
theorem d_X7_refusesOrder_69 : decode cX7_refusesOrder 69 = .ok (.ireturn, 1) := by decide +kernel
theorem d_X7_refusesOrder_70 : decode cX7_refusesOrder 70 = .ok (.aload_n 0, 1) := by decide +kernel
theorem d_X7_refusesOrder_71 : decode cX7_refusesOrder 71 = .ok (.getfield 12, 3) := by decide +kernel
theorem d_X7_refusesOrder_74 : decode cX7_refusesOrder 74 = .ok (.getfield 151, 3) := by decide +kernel
theorem d_X7_refusesOrder_77 : decode cX7_refusesOrder 77 = .ok (.bipush 10, 2) := by decide +kernel
theorem d_X7_refusesOrder_79 : decode cX7_refusesOrder 79 = .ok (.if_icmp .lt 10, 3) := by decide +kernel
theorem d_X7_refusesOrder_82 : decode cX7_refusesOrder 82 = .ok (.aload_n 0, 1) := by decide +kernel
theorem d_X7_refusesOrder_83 : decode cX7_refusesOrder 83 = .ok (.iconst 3, 1) := by decide +kernel
theorem d_X7_refusesOrder_84 : decode cX7_refusesOrder 84 = .ok (.iconst 0, 1) := by decide +kernel
theorem d_X7_refusesOrder_85 : decode cX7_refusesOrder 85 = .ok (.invokevirtual 109, 3) := by decide +kernel
theorem d_X7_refusesOrder_88 : decode cX7_refusesOrder 88 = .ok (.ireturn, 1) := by decide +kernel
theorem d_X7_refusesOrder_89 : decode cX7_refusesOrder 89 = .ok (.aload_n 0, 1) := by decide +kernel
theorem d_X7_refusesOrder_90 : decode cX7_refusesOrder 90 = .ok (.iload_n 2, 1) := by decide +kernel
theorem d_X7_refusesOrder_91 : decode cX7_refusesOrder 91 = .ok (.invokevirtual 154, 3) := by decide +kernel
theorem d_X7_refusesOrder_94 : decode cX7_refusesOrder 94 = .ok (.ifCond .ne 20, 3) := by decide +kernel
theorem d_X7_refusesOrder_97 : decode cX7_refusesOrder 97 = .ok (.aload_n 0, 1) := by decide +kernel
theorem d_X7_refusesOrder_98 : decode cX7_refusesOrder 98 = .ok (.iload_n 3, 1) := by decide +kernel
theorem d_X7_refusesOrder_99 : decode cX7_refusesOrder 99 = .ok (.invokevirtual 154, 3) := by decide +kernel
theorem d_X7_refusesOrder_102 : decode cX7_refusesOrder 102 = .ok (.ifCond .ne 12, 3) := by decide +kernel
theorem d_X7_refusesOrder_105 : decode cX7_refusesOrder 105 = .ok (.aload_n 0, 1) := by decide +kernel
theorem d_X7_refusesOrder_106 : decode cX7_refusesOrder 106 = .ok (.iload 4, 2) := by decide +kernel
theorem d_X7_refusesOrder_108 : decode cX7_refusesOrder 108 = .ok (.invokevirtual 154, 3) := by decide +kernel
theorem d_X7_refusesOrder_111 : decode cX7_refusesOrder 111 = .ok (.ifCond .eq 7, 3) := by decide +kernel
theorem d_X7_refusesOrder_114 : decode cX7_refusesOrder 114 = .ok (.iconst 1, 1) := by decide +kernel
theorem d_X7_refusesOrder_115 : decode cX7_refusesOrder 115 = .ok (.goto 4, 3) := by decide +kernel
theorem d_X7_refusesOrder_118 : decode cX7_refusesOrder 118 = .ok (.iconst 0, 1) := by decide +kernel
theorem d_X7_refusesOrder_119 : decode cX7_refusesOrder 119 = .ok (.ireturn, 1) := by decide +kernel
theorem d_X7_refusesLine_0 : decode cX7_refusesLine 0 = .ok (.aload_n 0, 1) := by decide +kernel
theorem d_X7_refusesLine_1 : decode cX7_refusesLine 1 = .ok (.getfield 12, 3) := by decide +kernel
theorem d_X7_refusesLine_4 : decode cX7_refusesLine 4 = .ok (.iload_n 1, 1) := by decide +kernel
theorem d_X7_refusesLine_5 : decode cX7_refusesLine 5 = .ok (.invokevirtual 105, 3) := by decide +kernel
theorem d_X7_refusesLine_8 : decode cX7_refusesLine 8 = .ok (.ifCond .eq 23, 3) := by decide +kernel
theorem d_X7_refusesLine_11 : decode cX7_refusesLine 11 = .ok (.aload_n 0, 1) := by decide +kernel
theorem d_X7_refusesLine_12 : decode cX7_refusesLine 12 = .ok (.getfield 12, 3) := by decide +kernel
theorem d_X7_refusesLine_15 : decode cX7_refusesLine 15 = .ok (.getfield 157, 3) := by decide +kernel
theorem d_X7_refusesLine_18 : decode cX7_refusesLine 18 = .ok (.iload_n 1, 1) := by decide +kernel
theorem d_X7_refusesLine_19 : decode cX7_refusesLine 19 = .ok (.iaload, 1) := by decide +kernel
theorem d_X7_refusesLine_20 : decode cX7_refusesLine 20 = .ok (.ifCond .eq 11, 3) := by decide +kernel
theorem d_X7_refusesLine_23 : decode cX7_refusesLine 23 = .ok (.aload_n 0, 1) := by decide +kernel
theorem d_X7_refusesLine_24 : decode cX7_refusesLine 24 = .ok (.bipush 12, 2) := by decide +kernel
theorem d_X7_refusesLine_26 : decode cX7_refusesLine 26 = .ok (.iload_n 1, 1) := by decide +kernel
theorem d_X7_refusesLine_27 : decode cX7_refusesLine 27 = .ok (.invokevirtual 109, 3) := by decide +kernel
theorem d_X7_refusesLine_30 : decode cX7_refusesLine 30 = .ok (.ireturn, 1) := by decide +kernel
theorem d_X7_refusesLine_31 : decode cX7_refusesLine 31 = .ok (.iconst 0, 1) := by decide +kernel
theorem d_X7_refusesLine_32 : decode cX7_refusesLine 32 = .ok (.ireturn, 1) := by decide +kernel
theorem d_X7_assign_0 : decode cX7_assign 0 = .ok (.aload_n 0, 1) := by decide +kernel
theorem d_X7_assign_1 : decode cX7_assign 1 = .ok (.iload_n 1, 1) := by decide +kernel
theorem d_X7_assign_2 : decode cX7_assign 2 = .ok (.iload_n 2, 1) := by decide +kernel
theorem d_X7_assign_3 : decode cX7_assign 3 = .ok (.invokevirtual 161, 3) := by decide +kernel
theorem d_X7_assign_6 : decode cX7_assign 6 = .ok (.ifCond .eq 11, 3) := by decide +kernel
theorem d_X7_assign_9 : decode cX7_assign 9 = .ok (.new 98, 3) := by decide +kernel
theorem d_X7_assign_12 : decode cX7_assign 12 = .ok (.dup, 1) := by decide +kernel
theorem d_X7_assign_13 : decode cX7_assign 13 = .ok (.invokespecial 100, 3) := by decide +kernel
theorem d_X7_assign_16 : decode cX7_assign 16 = .ok (.athrow, 1) := by decide +kernel
theorem d_X7_assign_17 : decode cX7_assign 17 = .ok (.aload_n 0, 1) := by decide +kernel
theorem d_X7_assign_18 : decode cX7_assign 18 = .ok (.getfield 22, 3) := by decide +kernel
theorem d_X7_assign_21 : decode cX7_assign 21 = .ok (.aload_n 0, 1) := by decide +kernel
theorem d_X7_assign_22 : decode cX7_assign 22 = .ok (.getfield 12, 3) := by decide +kernel
theorem d_X7_assign_25 : decode cX7_assign 25 = .ok (.invokevirtual 84, 3) := by decide +kernel
theorem d_X7_assign_28 : decode cX7_assign 28 = .ok (.aload_n 0, 1) := by decide +kernel
theorem d_X7_assign_29 : decode cX7_assign 29 = .ok (.getfield 12, 3) := by decide +kernel
theorem d_X7_assign_32 : decode cX7_assign 32 = .ok (.getfield 131, 3) := by decide +kernel
theorem d_X7_assign_35 : decode cX7_assign 35 = .ok (.iload_n 1, 1) := by decide +kernel
theorem d_X7_assign_36 : decode cX7_assign 36 = .ok (.aaload, 1) := by decide +kernel
theorem d_X7_assign_37 : decode cX7_assign 37 = .ok (.iload_n 2, 1) := by decide +kernel
theorem d_X7_assign_38 : decode cX7_assign 38 = .ok (.putfield 135, 3) := by decide +kernel
theorem d_X7_assign_41 : decode cX7_assign 41 = .ok (.aload_n 0, 1) := by decide +kernel
theorem d_X7_assign_42 : decode cX7_assign 42 = .ok (.getfield 12, 3) := by decide +kernel
theorem d_X7_assign_45 : decode cX7_assign 45 = .ok (.getfield 164, 3) := by decide +kernel
theorem d_X7_assign_48 : decode cX7_assign 48 = .ok (.iload_n 2, 1) := by decide +kernel
theorem d_X7_assign_49 : decode cX7_assign 49 = .ok (.aaload, 1) := by decide +kernel
theorem d_X7_assign_50 : decode cX7_assign 50 = .ok (.invokevirtual 168, 3) := by decide +kernel
theorem d_X7_assign_53 : decode cX7_assign 53 = .ok (.ireturn, 1) := by decide +kernel
theorem d_X7_refusesAssign_0 : decode cX7_refusesAssign 0 = .ok (.aload_n 0, 1) := by decide +kernel
theorem d_X7_refusesAssign_1 : decode cX7_refusesAssign 1 = .ok (.getfield 12, 3) := by decide +kernel
theorem d_X7_refusesAssign_4 : decode cX7_refusesAssign 4 = .ok (.iload_n 1, 1) := by decide +kernel
theorem d_X7_refusesAssign_5 : decode cX7_refusesAssign 5 = .ok (.invokevirtual 128, 3) := by decide +kernel
theorem d_X7_refusesAssign_8 : decode cX7_refusesAssign 8 = .ok (.ifCond .eq 14, 3) := by decide +kernel
theorem d_X7_refusesAssign_11 : decode cX7_refusesAssign 11 = .ok (.aload_n 0, 1) := by decide +kernel
theorem d_X7_refusesAssign_12 : decode cX7_refusesAssign 12 = .ok (.getfield 12, 3) := by decide +kernel
theorem d_X7_refusesAssign_15 : decode cX7_refusesAssign 15 = .ok (.iload_n 2, 1) := by decide +kernel
theorem d_X7_refusesAssign_16 : decode cX7_refusesAssign 16 = .ok (.invokevirtual 173, 3) := by decide +kernel
theorem d_X7_refusesAssign_19 : decode cX7_refusesAssign 19 = .ok (.ifCond .ne 10, 3) := by decide +kernel
theorem d_X7_refusesAssign_22 : decode cX7_refusesAssign 22 = .ok (.aload_n 0, 1) := by decide +kernel
theorem d_X7_refusesAssign_23 : decode cX7_refusesAssign 23 = .ok (.iconst 1, 1) := by decide +kernel
theorem d_X7_refusesAssign_24 : decode cX7_refusesAssign 24 = .ok (.iconst 0, 1) := by decide +kernel
theorem d_X7_refusesAssign_25 : decode cX7_refusesAssign 25 = .ok (.invokevirtual 109, 3) := by decide +kernel
theorem d_X7_refusesAssign_28 : decode cX7_refusesAssign 28 = .ok (.ireturn, 1) := by decide +kernel
theorem d_X7_refusesAssign_29 : decode cX7_refusesAssign 29 = .ok (.aload_n 0, 1) := by decide +kernel
theorem d_X7_refusesAssign_30 : decode cX7_refusesAssign 30 = .ok (.getfield 12, 3) := by decide +kernel
theorem d_X7_refusesAssign_33 : decode cX7_refusesAssign 33 = .ok (.getfield 131, 3) := by decide +kernel
theorem d_X7_refusesAssign_36 : decode cX7_refusesAssign 36 = .ok (.iload_n 1, 1) := by decide +kernel
theorem d_X7_refusesAssign_37 : decode cX7_refusesAssign 37 = .ok (.aaload, 1) := by decide +kernel
theorem d_X7_refusesAssign_38 : decode cX7_refusesAssign 38 = .ok (.getfield 135, 3) := by decide +kernel
theorem d_X7_refusesAssign_41 : decode cX7_refusesAssign 41 = .ok (.iconst (-1), 1) := by decide +kernel
theorem d_X7_refusesAssign_42 : decode cX7_refusesAssign 42 = .ok (.if_icmp .eq 22, 3) := by decide +kernel
theorem d_X7_refusesAssign_45 : decode cX7_refusesAssign 45 = .ok (.aload_n 0, 1) := by decide +kernel
theorem d_X7_refusesAssign_46 : decode cX7_refusesAssign 46 = .ok (.bipush 7, 2) := by decide +kernel
theorem d_X7_refusesAssign_48 : decode cX7_refusesAssign 48 = .ok (.aload_n 0, 1) := by decide +kernel
theorem d_X7_refusesAssign_49 : decode cX7_refusesAssign 49 = .ok (.getfield 12, 3) := by decide +kernel
theorem d_X7_refusesAssign_52 : decode cX7_refusesAssign 52 = .ok (.getfield 131, 3) := by decide +kernel
theorem d_X7_refusesAssign_55 : decode cX7_refusesAssign 55 = .ok (.iload_n 1, 1) := by decide +kernel
theorem d_X7_refusesAssign_56 : decode cX7_refusesAssign 56 = .ok (.aaload, 1) := by decide +kernel
theorem d_X7_refusesAssign_57 : decode cX7_refusesAssign 57 = .ok (.getfield 135, 3) := by decide +kernel
theorem d_X7_refusesAssign_60 : decode cX7_refusesAssign 60 = .ok (.invokevirtual 109, 3) := by decide +kernel
theorem d_X7_refusesAssign_63 : decode cX7_refusesAssign 63 = .ok (.ireturn, 1) := by decide +kernel
theorem d_X7_refusesAssign_64 : decode cX7_refusesAssign 64 = .ok (.aload_n 0, 1) := by decide +kernel
theorem d_X7_refusesAssign_65 : decode cX7_refusesAssign 65 = .ok (.getfield 12, 3) := by decide +kernel
theorem d_X7_refusesAssign_68 : decode cX7_refusesAssign 68 = .ok (.iload_n 2, 1) := by decide +kernel
theorem d_X7_refusesAssign_69 : decode cX7_refusesAssign 69 = .ok (.invokevirtual 176, 3) := by decide +kernel
theorem d_X7_refusesAssign_72 : decode cX7_refusesAssign 72 = .ok (.ifCond .eq 18, 3) := by decide +kernel
theorem d_X7_refusesAssign_75 : decode cX7_refusesAssign 75 = .ok (.aload_n 0, 1) := by decide +kernel
theorem d_X7_refusesAssign_76 : decode cX7_refusesAssign 76 = .ok (.bipush 8, 2) := by decide +kernel
theorem d_X7_refusesAssign_78 : decode cX7_refusesAssign 78 = .ok (.aload_n 0, 1) := by decide +kernel
theorem d_X7_refusesAssign_79 : decode cX7_refusesAssign 79 = .ok (.getfield 12, 3) := by decide +kernel
theorem d_X7_refusesAssign_82 : decode cX7_refusesAssign 82 = .ok (.iload_n 2, 1) := by decide +kernel
theorem d_X7_refusesAssign_83 : decode cX7_refusesAssign 83 = .ok (.invokevirtual 176, 3) := by decide +kernel
theorem d_X7_refusesAssign_86 : decode cX7_refusesAssign 86 = .ok (.invokevirtual 109, 3) := by decide +kernel
theorem d_X7_refusesAssign_89 : decode cX7_refusesAssign 89 = .ok (.ireturn, 1) := by decide +kernel
theorem d_X7_refusesAssign_90 : decode cX7_refusesAssign 90 = .ok (.iconst 0, 1) := by decide +kernel
theorem d_X7_refusesAssign_91 : decode cX7_refusesAssign 91 = .ok (.ireturn, 1) := by decide +kernel
theorem d_X7_release_0 : decode cX7_release 0 = .ok (.aload_n 0, 1) := by decide +kernel
theorem d_X7_release_1 : decode cX7_release 1 = .ok (.iload_n 1, 1) := by decide +kernel
theorem d_X7_release_2 : decode cX7_release 2 = .ok (.invokevirtual 180, 3) := by decide +kernel
theorem d_X7_release_5 : decode cX7_release 5 = .ok (.ifCond .eq 11, 3) := by decide +kernel
theorem d_X7_release_8 : decode cX7_release 8 = .ok (.new 98, 3) := by decide +kernel
theorem d_X7_release_11 : decode cX7_release 11 = .ok (.dup, 1) := by decide +kernel
theorem d_X7_release_12 : decode cX7_release 12 = .ok (.invokespecial 100, 3) := by decide +kernel
theorem d_X7_release_15 : decode cX7_release 15 = .ok (.athrow, 1) := by decide +kernel
theorem d_X7_release_16 : decode cX7_release 16 = .ok (.aload_n 0, 1) := by decide +kernel
theorem d_X7_release_17 : decode cX7_release 17 = .ok (.getfield 22, 3) := by decide +kernel
theorem d_X7_release_20 : decode cX7_release 20 = .ok (.aload_n 0, 1) := by decide +kernel
theorem d_X7_release_21 : decode cX7_release 21 = .ok (.getfield 12, 3) := by decide +kernel
theorem d_X7_release_24 : decode cX7_release 24 = .ok (.invokevirtual 84, 3) := by decide +kernel
theorem d_X7_release_27 : decode cX7_release 27 = .ok (.aload_n 0, 1) := by decide +kernel
theorem d_X7_release_28 : decode cX7_release 28 = .ok (.getfield 12, 3) := by decide +kernel
theorem d_X7_release_31 : decode cX7_release 31 = .ok (.iload_n 1, 1) := by decide +kernel
theorem d_X7_release_32 : decode cX7_release 32 = .ok (.invokevirtual 183, 3) := by decide +kernel
theorem d_X7_release_35 : decode cX7_release 35 = .ok (.ireturn, 1) := by decide +kernel
theorem d_X7_refusesRelease_0 : decode cX7_refusesRelease 0 = .ok (.aload_n 0, 1) := by decide +kernel
theorem d_X7_refusesRelease_1 : decode cX7_refusesRelease 1 = .ok (.getfield 12, 3) := by decide +kernel
theorem d_X7_refusesRelease_4 : decode cX7_refusesRelease 4 = .ok (.iload_n 1, 1) := by decide +kernel
theorem d_X7_refusesRelease_5 : decode cX7_refusesRelease 5 = .ok (.invokevirtual 128, 3) := by decide +kernel
theorem d_X7_refusesRelease_8 : decode cX7_refusesRelease 8 = .ok (.ifCond .ne 10, 3) := by decide +kernel
theorem d_X7_refusesRelease_11 : decode cX7_refusesRelease 11 = .ok (.aload_n 0, 1) := by decide +kernel
theorem d_X7_refusesRelease_12 : decode cX7_refusesRelease 12 = .ok (.iconst 1, 1) := by decide +kernel
theorem d_X7_refusesRelease_13 : decode cX7_refusesRelease 13 = .ok (.iconst 0, 1) := by decide +kernel
theorem d_X7_refusesRelease_14 : decode cX7_refusesRelease 14 = .ok (.invokevirtual 109, 3) := by decide +kernel
theorem d_X7_refusesRelease_17 : decode cX7_refusesRelease 17 = .ok (.ireturn, 1) := by decide +kernel
theorem d_X7_refusesRelease_18 : decode cX7_refusesRelease 18 = .ok (.aload_n 0, 1) := by decide +kernel
theorem d_X7_refusesRelease_19 : decode cX7_refusesRelease 19 = .ok (.getfield 12, 3) := by decide +kernel
theorem d_X7_refusesRelease_22 : decode cX7_refusesRelease 22 = .ok (.getfield 131, 3) := by decide +kernel
theorem d_X7_refusesRelease_25 : decode cX7_refusesRelease 25 = .ok (.iload_n 1, 1) := by decide +kernel
theorem d_X7_refusesRelease_26 : decode cX7_refusesRelease 26 = .ok (.aaload, 1) := by decide +kernel
theorem d_X7_refusesRelease_27 : decode cX7_refusesRelease 27 = .ok (.getfield 135, 3) := by decide +kernel
theorem d_X7_refusesRelease_30 : decode cX7_refusesRelease 30 = .ok (.iconst (-1), 1) := by decide +kernel
theorem d_X7_refusesRelease_31 : decode cX7_refusesRelease 31 = .ok (.if_icmp .ne 11, 3) := by decide +kernel
theorem d_X7_refusesRelease_34 : decode cX7_refusesRelease 34 = .ok (.aload_n 0, 1) := by decide +kernel
theorem d_X7_refusesRelease_35 : decode cX7_refusesRelease 35 = .ok (.bipush 7, 2) := by decide +kernel
theorem d_X7_refusesRelease_37 : decode cX7_refusesRelease 37 = .ok (.iconst (-1), 1) := by decide +kernel
theorem d_X7_refusesRelease_38 : decode cX7_refusesRelease 38 = .ok (.invokevirtual 109, 3) := by decide +kernel
theorem d_X7_refusesRelease_41 : decode cX7_refusesRelease 41 = .ok (.ireturn, 1) := by decide +kernel
theorem d_X7_refusesRelease_42 : decode cX7_refusesRelease 42 = .ok (.iconst 0, 1) := by decide +kernel
theorem d_X7_refusesRelease_43 : decode cX7_refusesRelease 43 = .ok (.ireturn, 1) := by decide +kernel
theorem d_X7_close_0 : decode cX7_close 0 = .ok (.aload_n 0, 1) := by decide +kernel
theorem d_X7_close_1 : decode cX7_close 1 = .ok (.iload_n 1, 1) := by decide +kernel
theorem d_X7_close_2 : decode cX7_close 2 = .ok (.invokevirtual 186, 3) := by decide +kernel
theorem d_X7_close_5 : decode cX7_close 5 = .ok (.ifCond .eq 11, 3) := by decide +kernel
theorem d_X7_close_8 : decode cX7_close 8 = .ok (.new 98, 3) := by decide +kernel
theorem d_X7_close_11 : decode cX7_close 11 = .ok (.dup, 1) := by decide +kernel
theorem d_X7_close_12 : decode cX7_close 12 = .ok (.invokespecial 100, 3) := by decide +kernel
theorem d_X7_close_15 : decode cX7_close 15 = .ok (.athrow, 1) := by decide +kernel
theorem d_X7_close_16 : decode cX7_close 16 = .ok (.aload_n 0, 1) := by decide +kernel
theorem d_X7_close_17 : decode cX7_close 17 = .ok (.getfield 22, 3) := by decide +kernel
theorem d_X7_close_20 : decode cX7_close 20 = .ok (.aload_n 0, 1) := by decide +kernel
theorem d_X7_close_21 : decode cX7_close 21 = .ok (.getfield 12, 3) := by decide +kernel
theorem d_X7_close_24 : decode cX7_close 24 = .ok (.invokevirtual 84, 3) := by decide +kernel
theorem d_X7_close_27 : decode cX7_close 27 = .ok (.aload_n 0, 1) := by decide +kernel
theorem d_X7_close_28 : decode cX7_close 28 = .ok (.getfield 12, 3) := by decide +kernel
theorem d_X7_close_31 : decode cX7_close 31 = .ok (.getfield 189, 3) := by decide +kernel
theorem d_X7_close_34 : decode cX7_close 34 = .ok (.iload_n 1, 1) := by decide +kernel
theorem d_X7_close_35 : decode cX7_close 35 = .ok (.iconst 1, 1) := by decide +kernel
theorem d_X7_close_36 : decode cX7_close 36 = .ok (.bastore, 1) := by decide +kernel
theorem d_X7_close_37 : decode cX7_close 37 = .ok (.aload_n 0, 1) := by decide +kernel
theorem d_X7_close_38 : decode cX7_close 38 = .ok (.getfield 12, 3) := by decide +kernel
theorem d_X7_close_41 : decode cX7_close 41 = .ok (.invokevirtual 193, 3) := by decide +kernel
theorem d_X7_close_44 : decode cX7_close 44 = .ok (.ireturn, 1) := by decide +kernel
theorem d_X7_refusesClose_0 : decode cX7_refusesClose 0 = .ok (.aload_n 0, 1) := by decide +kernel
theorem d_X7_refusesClose_1 : decode cX7_refusesClose 1 = .ok (.getfield 12, 3) := by decide +kernel
theorem d_X7_refusesClose_4 : decode cX7_refusesClose 4 = .ok (.iload_n 1, 1) := by decide +kernel
theorem d_X7_refusesClose_5 : decode cX7_refusesClose 5 = .ok (.invokevirtual 105, 3) := by decide +kernel
theorem d_X7_refusesClose_8 : decode cX7_refusesClose 8 = .ok (.ifCond .ne 10, 3) := by decide +kernel
theorem d_X7_refusesClose_11 : decode cX7_refusesClose 11 = .ok (.aload_n 0, 1) := by decide +kernel
theorem d_X7_refusesClose_12 : decode cX7_refusesClose 12 = .ok (.iconst 1, 1) := by decide +kernel
theorem d_X7_refusesClose_13 : decode cX7_refusesClose 13 = .ok (.iconst 0, 1) := by decide +kernel
theorem d_X7_refusesClose_14 : decode cX7_refusesClose 14 = .ok (.invokevirtual 109, 3) := by decide +kernel
theorem d_X7_refusesClose_17 : decode cX7_refusesClose 17 = .ok (.ireturn, 1) := by decide +kernel
theorem d_X7_refusesClose_18 : decode cX7_refusesClose 18 = .ok (.aload_n 0, 1) := by decide +kernel
theorem d_X7_refusesClose_19 : decode cX7_refusesClose 19 = .ok (.getfield 12, 3) := by decide +kernel
theorem d_X7_refusesClose_22 : decode cX7_refusesClose 22 = .ok (.getfield 189, 3) := by decide +kernel
theorem d_X7_refusesClose_25 : decode cX7_refusesClose 25 = .ok (.iload_n 1, 1) := by decide +kernel
theorem d_X7_refusesClose_26 : decode cX7_refusesClose 26 = .ok (.baload, 1) := by decide +kernel
theorem d_X7_refusesClose_27 : decode cX7_refusesClose 27 = .ok (.ifCond .eq 11, 3) := by decide +kernel
theorem d_X7_refusesClose_30 : decode cX7_refusesClose 30 = .ok (.aload_n 0, 1) := by decide +kernel
theorem d_X7_refusesClose_31 : decode cX7_refusesClose 31 = .ok (.bipush 13, 2) := by decide +kernel
theorem d_X7_refusesClose_33 : decode cX7_refusesClose 33 = .ok (.iconst 0, 1) := by decide +kernel
theorem d_X7_refusesClose_34 : decode cX7_refusesClose 34 = .ok (.invokevirtual 109, 3) := by decide +kernel
theorem d_X7_refusesClose_37 : decode cX7_refusesClose 37 = .ok (.ireturn, 1) := by decide +kernel
theorem d_X7_refusesClose_38 : decode cX7_refusesClose 38 = .ok (.aload_n 0, 1) := by decide +kernel
theorem d_X7_refusesClose_39 : decode cX7_refusesClose 39 = .ok (.getfield 12, 3) := by decide +kernel
theorem d_X7_refusesClose_42 : decode cX7_refusesClose 42 = .ok (.getfield 157, 3) := by decide +kernel
theorem d_X7_refusesClose_45 : decode cX7_refusesClose 45 = .ok (.iload_n 1, 1) := by decide +kernel
theorem d_X7_refusesClose_46 : decode cX7_refusesClose 46 = .ok (.iaload, 1) := by decide +kernel
theorem d_X7_refusesClose_47 : decode cX7_refusesClose 47 = .ok (.iconst 1, 1) := by decide +kernel
theorem d_X7_refusesClose_48 : decode cX7_refusesClose 48 = .ok (.if_icmp .ne 10, 3) := by decide +kernel
theorem d_X7_refusesClose_51 : decode cX7_refusesClose 51 = .ok (.aload_n 0, 1) := by decide +kernel
theorem d_X7_refusesClose_52 : decode cX7_refusesClose 52 = .ok (.iconst 4, 1) := by decide +kernel
theorem d_X7_refusesClose_53 : decode cX7_refusesClose 53 = .ok (.iload_n 1, 1) := by decide +kernel
theorem d_X7_refusesClose_54 : decode cX7_refusesClose 54 = .ok (.invokevirtual 109, 3) := by decide +kernel
theorem d_X7_refusesClose_57 : decode cX7_refusesClose 57 = .ok (.ireturn, 1) := by decide +kernel
theorem d_X7_refusesClose_58 : decode cX7_refusesClose 58 = .ok (.aload_n 0, 1) := by decide +kernel
theorem d_X7_refusesClose_59 : decode cX7_refusesClose 59 = .ok (.iload_n 1, 1) := by decide +kernel
theorem d_X7_refusesClose_60 : decode cX7_refusesClose 60 = .ok (.iconst (-1), 1) := by decide +kernel
theorem d_X7_refusesClose_61 : decode cX7_refusesClose 61 = .ok (.invokevirtual 118, 3) := by decide +kernel
theorem d_X7_refusesClose_64 : decode cX7_refusesClose 64 = .ok (.ireturn, 1) := by decide +kernel
theorem d_X7_open_0 : decode cX7_open 0 = .ok (.aload_n 0, 1) := by decide +kernel
theorem d_X7_open_1 : decode cX7_open 1 = .ok (.iload_n 1, 1) := by decide +kernel
theorem d_X7_open_2 : decode cX7_open 2 = .ok (.invokevirtual 196, 3) := by decide +kernel
theorem d_X7_open_5 : decode cX7_open 5 = .ok (.ifCond .eq 11, 3) := by decide +kernel
theorem d_X7_open_8 : decode cX7_open 8 = .ok (.new 98, 3) := by decide +kernel
theorem d_X7_open_11 : decode cX7_open 11 = .ok (.dup, 1) := by decide +kernel
theorem d_X7_open_12 : decode cX7_open 12 = .ok (.invokespecial 100, 3) := by decide +kernel
theorem d_X7_open_15 : decode cX7_open 15 = .ok (.athrow, 1) := by decide +kernel
theorem d_X7_open_16 : decode cX7_open 16 = .ok (.aload_n 0, 1) := by decide +kernel
theorem d_X7_open_17 : decode cX7_open 17 = .ok (.getfield 22, 3) := by decide +kernel
theorem d_X7_open_20 : decode cX7_open 20 = .ok (.aload_n 0, 1) := by decide +kernel
theorem d_X7_open_21 : decode cX7_open 21 = .ok (.getfield 12, 3) := by decide +kernel
theorem d_X7_open_24 : decode cX7_open 24 = .ok (.invokevirtual 84, 3) := by decide +kernel
theorem d_X7_open_27 : decode cX7_open 27 = .ok (.aload_n 0, 1) := by decide +kernel
theorem d_X7_open_28 : decode cX7_open 28 = .ok (.getfield 12, 3) := by decide +kernel
theorem d_X7_open_31 : decode cX7_open 31 = .ok (.getfield 189, 3) := by decide +kernel
theorem d_X7_open_34 : decode cX7_open 34 = .ok (.iload_n 1, 1) := by decide +kernel
theorem d_X7_open_35 : decode cX7_open 35 = .ok (.iconst 0, 1) := by decide +kernel
theorem d_X7_open_36 : decode cX7_open 36 = .ok (.bastore, 1) := by decide +kernel
theorem d_X7_open_37 : decode cX7_open 37 = .ok (.aload_n 0, 1) := by decide +kernel
theorem d_X7_open_38 : decode cX7_open 38 = .ok (.getfield 12, 3) := by decide +kernel
theorem d_X7_open_41 : decode cX7_open 41 = .ok (.invokevirtual 193, 3) := by decide +kernel
theorem d_X7_open_44 : decode cX7_open 44 = .ok (.ireturn, 1) := by decide +kernel
theorem d_X7_refusesOpen_0 : decode cX7_refusesOpen 0 = .ok (.aload_n 0, 1) := by decide +kernel
theorem d_X7_refusesOpen_1 : decode cX7_refusesOpen 1 = .ok (.getfield 12, 3) := by decide +kernel
theorem d_X7_refusesOpen_4 : decode cX7_refusesOpen 4 = .ok (.iload_n 1, 1) := by decide +kernel
theorem d_X7_refusesOpen_5 : decode cX7_refusesOpen 5 = .ok (.invokevirtual 105, 3) := by decide +kernel
theorem d_X7_refusesOpen_8 : decode cX7_refusesOpen 8 = .ok (.ifCond .ne 10, 3) := by decide +kernel
theorem d_X7_refusesOpen_11 : decode cX7_refusesOpen 11 = .ok (.aload_n 0, 1) := by decide +kernel
theorem d_X7_refusesOpen_12 : decode cX7_refusesOpen 12 = .ok (.iconst 1, 1) := by decide +kernel
theorem d_X7_refusesOpen_13 : decode cX7_refusesOpen 13 = .ok (.iconst 0, 1) := by decide +kernel
theorem d_X7_refusesOpen_14 : decode cX7_refusesOpen 14 = .ok (.invokevirtual 109, 3) := by decide +kernel
theorem d_X7_refusesOpen_17 : decode cX7_refusesOpen 17 = .ok (.ireturn, 1) := by decide +kernel
theorem d_X7_refusesOpen_18 : decode cX7_refusesOpen 18 = .ok (.aload_n 0, 1) := by decide +kernel
theorem d_X7_refusesOpen_19 : decode cX7_refusesOpen 19 = .ok (.getfield 12, 3) := by decide +kernel
theorem d_X7_refusesOpen_22 : decode cX7_refusesOpen 22 = .ok (.getfield 189, 3) := by decide +kernel
theorem d_X7_refusesOpen_25 : decode cX7_refusesOpen 25 = .ok (.iload_n 1, 1) := by decide +kernel
theorem d_X7_refusesOpen_26 : decode cX7_refusesOpen 26 = .ok (.baload, 1) := by decide +kernel
theorem d_X7_refusesOpen_27 : decode cX7_refusesOpen 27 = .ok (.ifCond .ne 11, 3) := by decide +kernel
theorem d_X7_refusesOpen_30 : decode cX7_refusesOpen 30 = .ok (.aload_n 0, 1) := by decide +kernel
theorem d_X7_refusesOpen_31 : decode cX7_refusesOpen 31 = .ok (.bipush 13, 2) := by decide +kernel
theorem d_X7_refusesOpen_33 : decode cX7_refusesOpen 33 = .ok (.iconst 0, 1) := by decide +kernel
theorem d_X7_refusesOpen_34 : decode cX7_refusesOpen 34 = .ok (.invokevirtual 109, 3) := by decide +kernel
theorem d_X7_refusesOpen_37 : decode cX7_refusesOpen 37 = .ok (.ireturn, 1) := by decide +kernel
theorem d_X7_refusesOpen_38 : decode cX7_refusesOpen 38 = .ok (.iconst 0, 1) := by decide +kernel
theorem d_X7_refusesOpen_39 : decode cX7_refusesOpen 39 = .ok (.ireturn, 1) := by decide +kernel
theorem d_X7_set_0 : decode cX7_set 0 = .ok (.aload_n 0, 1) := by decide +kernel
theorem d_X7_set_1 : decode cX7_set 1 = .ok (.iload_n 1, 1) := by decide +kernel
theorem d_X7_set_2 : decode cX7_set 2 = .ok (.iload_n 2, 1) := by decide +kernel
theorem d_X7_set_3 : decode cX7_set 3 = .ok (.invokevirtual 199, 3) := by decide +kernel
theorem d_X7_set_6 : decode cX7_set 6 = .ok (.ifCond .eq 11, 3) := by decide +kernel
theorem d_X7_set_9 : decode cX7_set 9 = .ok (.new 98, 3) := by decide +kernel
theorem d_X7_set_12 : decode cX7_set 12 = .ok (.dup, 1) := by decide +kernel
theorem d_X7_set_13 : decode cX7_set 13 = .ok (.invokespecial 100, 3) := by decide +kernel
theorem d_X7_set_16 : decode cX7_set 16 = .ok (.athrow, 1) := by decide +kernel
theorem d_X7_set_17 : decode cX7_set 17 = .ok (.aload_n 0, 1) := by decide +kernel
theorem d_X7_set_18 : decode cX7_set 18 = .ok (.getfield 22, 3) := by decide +kernel
theorem d_X7_set_21 : decode cX7_set 21 = .ok (.aload_n 0, 1) := by decide +kernel
theorem d_X7_set_22 : decode cX7_set 22 = .ok (.getfield 12, 3) := by decide +kernel
theorem d_X7_set_25 : decode cX7_set 25 = .ok (.invokevirtual 84, 3) := by decide +kernel
theorem d_X7_set_28 : decode cX7_set 28 = .ok (.aload_n 0, 1) := by decide +kernel
theorem d_X7_set_29 : decode cX7_set 29 = .ok (.getfield 12, 3) := by decide +kernel
theorem d_X7_set_32 : decode cX7_set 32 = .ok (.getfield 202, 3) := by decide +kernel
theorem d_X7_set_35 : decode cX7_set 35 = .ok (.iload_n 1, 1) := by decide +kernel
theorem d_X7_set_36 : decode cX7_set 36 = .ok (.iaload, 1) := by decide +kernel
theorem d_X7_set_37 : decode cX7_set 37 = .ok (.istore_n 3, 1) := by decide +kernel
theorem d_X7_set_38 : decode cX7_set 38 = .ok (.aload_n 0, 1) := by decide +kernel
theorem d_X7_set_39 : decode cX7_set 39 = .ok (.getfield 12, 3) := by decide +kernel
theorem d_X7_set_42 : decode cX7_set 42 = .ok (.getfield 202, 3) := by decide +kernel
theorem d_X7_set_45 : decode cX7_set 45 = .ok (.iload_n 1, 1) := by decide +kernel
theorem d_X7_set_46 : decode cX7_set 46 = .ok (.iload_n 2, 1) := by decide +kernel
theorem d_X7_set_47 : decode cX7_set 47 = .ok (.iastore, 1) := by decide +kernel
theorem d_X7_set_48 : decode cX7_set 48 = .ok (.iload_n 3, 1) := by decide +kernel
theorem d_X7_set_49 : decode cX7_set 49 = .ok (.ireturn, 1) := by decide +kernel
theorem d_X7_refusesSet_0 : decode cX7_refusesSet 0 = .ok (.iload_n 1, 1) := by decide +kernel
theorem d_X7_refusesSet_1 : decode cX7_refusesSet 1 = .ok (.ifCond .lt 8, 3) := by decide +kernel
theorem d_X7_refusesSet_4 : decode cX7_refusesSet 4 = .ok (.iload_n 1, 1) := by decide +kernel
theorem d_X7_refusesSet_5 : decode cX7_refusesSet 5 = .ok (.iconst 3, 1) := by decide +kernel
theorem d_X7_refusesSet_6 : decode cX7_refusesSet 6 = .ok (.if_icmp .lt 10, 3) := by decide +kernel
theorem d_X7_refusesSet_9 : decode cX7_refusesSet 9 = .ok (.aload_n 0, 1) := by decide +kernel
theorem d_X7_refusesSet_10 : decode cX7_refusesSet 10 = .ok (.iconst 2, 1) := by decide +kernel
theorem d_X7_refusesSet_11 : decode cX7_refusesSet 11 = .ok (.iconst 0, 1) := by decide +kernel
theorem d_X7_refusesSet_12 : decode cX7_refusesSet 12 = .ok (.invokevirtual 109, 3) := by decide +kernel
theorem d_X7_refusesSet_15 : decode cX7_refusesSet 15 = .ok (.ireturn, 1) := by decide +kernel
theorem d_X7_refusesSet_16 : decode cX7_refusesSet 16 = .ok (.iload_n 2, 1) := by decide +kernel
theorem d_X7_refusesSet_17 : decode cX7_refusesSet 17 = .ok (.getstatic 205, 3) := by decide +kernel
theorem d_X7_refusesSet_20 : decode cX7_refusesSet 20 = .ok (.iload_n 1, 1) := by decide +kernel
theorem d_X7_refusesSet_21 : decode cX7_refusesSet 21 = .ok (.iaload, 1) := by decide +kernel
theorem d_X7_refusesSet_22 : decode cX7_refusesSet 22 = .ok (.if_icmp .lt 12, 3) := by decide +kernel
theorem d_X7_refusesSet_25 : decode cX7_refusesSet 25 = .ok (.iload_n 2, 1) := by decide +kernel
theorem d_X7_refusesSet_26 : decode cX7_refusesSet 26 = .ok (.getstatic 208, 3) := by decide +kernel
theorem d_X7_refusesSet_29 : decode cX7_refusesSet 29 = .ok (.iload_n 1, 1) := by decide +kernel
theorem d_X7_refusesSet_30 : decode cX7_refusesSet 30 = .ok (.iaload, 1) := by decide +kernel
theorem d_X7_refusesSet_31 : decode cX7_refusesSet 31 = .ok (.if_icmp .le 10, 3) := by decide +kernel
theorem d_X7_refusesSet_34 : decode cX7_refusesSet 34 = .ok (.aload_n 0, 1) := by decide +kernel
theorem d_X7_refusesSet_35 : decode cX7_refusesSet 35 = .ok (.iconst 2, 1) := by decide +kernel
theorem d_X7_refusesSet_36 : decode cX7_refusesSet 36 = .ok (.iconst 0, 1) := by decide +kernel
theorem d_X7_refusesSet_37 : decode cX7_refusesSet 37 = .ok (.invokevirtual 109, 3) := by decide +kernel
theorem d_X7_refusesSet_40 : decode cX7_refusesSet 40 = .ok (.ireturn, 1) := by decide +kernel
theorem d_X7_refusesSet_41 : decode cX7_refusesSet 41 = .ok (.iconst 0, 1) := by decide +kernel
theorem d_X7_refusesSet_42 : decode cX7_refusesSet 42 = .ok (.ireturn, 1) := by decide +kernel
theorem d_X7_plan_0 : decode cX7_plan 0 = .ok (.aload_n 0, 1) := by decide +kernel
theorem d_X7_plan_1 : decode cX7_plan 1 = .ok (.iload_n 1, 1) := by decide +kernel
theorem d_X7_plan_2 : decode cX7_plan 2 = .ok (.iload_n 2, 1) := by decide +kernel
theorem d_X7_plan_3 : decode cX7_plan 3 = .ok (.invokevirtual 211, 3) := by decide +kernel
theorem d_X7_plan_6 : decode cX7_plan 6 = .ok (.ifCond .eq 11, 3) := by decide +kernel
theorem d_X7_plan_9 : decode cX7_plan 9 = .ok (.new 98, 3) := by decide +kernel
theorem d_X7_plan_12 : decode cX7_plan 12 = .ok (.dup, 1) := by decide +kernel
theorem d_X7_plan_13 : decode cX7_plan 13 = .ok (.invokespecial 100, 3) := by decide +kernel
theorem d_X7_plan_16 : decode cX7_plan 16 = .ok (.athrow, 1) := by decide +kernel
theorem d_X7_plan_17 : decode cX7_plan 17 = .ok (.aload_n 0, 1) := by decide +kernel
theorem d_X7_plan_18 : decode cX7_plan 18 = .ok (.getfield 45, 3) := by decide +kernel
theorem d_X7_plan_21 : decode cX7_plan 21 = .ok (.iload_n 1, 1) := by decide +kernel
theorem d_X7_plan_22 : decode cX7_plan 22 = .ok (.iload_n 2, 1) := by decide +kernel
theorem d_X7_plan_23 : decode cX7_plan 23 = .ok (.invokevirtual 214, 3) := by decide +kernel
theorem d_X7_plan_26 : decode cX7_plan 26 = .ok (.istore_n 3, 1) := by decide +kernel
theorem d_X7_plan_27 : decode cX7_plan 27 = .ok (.aload_n 0, 1) := by decide +kernel
theorem d_X7_plan_28 : decode cX7_plan 28 = .ok (.iload_n 1, 1) := by decide +kernel
theorem d_X7_plan_29 : decode cX7_plan 29 = .ok (.iload_n 3, 1) := by decide +kernel
theorem d_X7_plan_30 : decode cX7_plan 30 = .ok (.invokevirtual 217, 3) := by decide +kernel
theorem d_X7_plan_33 : decode cX7_plan 33 = .ok (.ifCond .eq 11, 3) := by decide +kernel
theorem d_X7_plan_36 : decode cX7_plan 36 = .ok (.new 98, 3) := by decide +kernel
theorem d_X7_plan_39 : decode cX7_plan 39 = .ok (.dup, 1) := by decide +kernel
theorem d_X7_plan_40 : decode cX7_plan 40 = .ok (.invokespecial 100, 3) := by decide +kernel
theorem d_X7_plan_43 : decode cX7_plan 43 = .ok (.athrow, 1) := by decide +kernel
theorem d_X7_plan_44 : decode cX7_plan 44 = .ok (.aload_n 0, 1) := by decide +kernel
theorem d_X7_plan_45 : decode cX7_plan 45 = .ok (.getfield 22, 3) := by decide +kernel
theorem d_X7_plan_48 : decode cX7_plan 48 = .ok (.aload_n 0, 1) := by decide +kernel
theorem d_X7_plan_49 : decode cX7_plan 49 = .ok (.getfield 12, 3) := by decide +kernel
theorem d_X7_plan_52 : decode cX7_plan 52 = .ok (.invokevirtual 84, 3) := by decide +kernel
theorem d_X7_plan_55 : decode cX7_plan 55 = .ok (.aload_n 0, 1) := by decide +kernel
theorem d_X7_plan_56 : decode cX7_plan 56 = .ok (.getfield 12, 3) := by decide +kernel
theorem d_X7_plan_59 : decode cX7_plan 59 = .ok (.getfield 131, 3) := by decide +kernel
theorem d_X7_plan_62 : decode cX7_plan 62 = .ok (.iload_n 1, 1) := by decide +kernel
theorem d_X7_plan_63 : decode cX7_plan 63 = .ok (.aaload, 1) := by decide +kernel
theorem d_X7_plan_64 : decode cX7_plan 64 = .ok (.aload_n 0, 1) := by decide +kernel
theorem d_X7_plan_65 : decode cX7_plan 65 = .ok (.getfield 45, 3) := by decide +kernel
theorem d_X7_plan_68 : decode cX7_plan 68 = .ok (.getfield 220, 3) := by decide +kernel
theorem d_X7_plan_71 : decode cX7_plan 71 = .ok (.iload_n 3, 1) := by decide +kernel
theorem d_X7_plan_72 : decode cX7_plan 72 = .ok (.aload_n 0, 1) := by decide +kernel
theorem d_X7_plan_73 : decode cX7_plan 73 = .ok (.getfield 12, 3) := by decide +kernel
theorem d_X7_plan_76 : decode cX7_plan 76 = .ok (.iload_n 1, 1) := by decide +kernel
theorem d_X7_plan_77 : decode cX7_plan 77 = .ok (.invokevirtual 223, 3) := by decide +kernel
theorem d_X7_plan_80 : decode cX7_plan 80 = .ok (.invokevirtual 226, 3) := by decide +kernel
theorem d_X7_plan_83 : decode cX7_plan 83 = .ok (.iload_n 3, 1) := by decide +kernel
theorem d_X7_plan_84 : decode cX7_plan 84 = .ok (.ireturn, 1) := by decide +kernel
theorem d_X7_refusesGoal_0 : decode cX7_refusesGoal 0 = .ok (.aload_n 0, 1) := by decide +kernel
theorem d_X7_refusesGoal_1 : decode cX7_refusesGoal 1 = .ok (.getfield 12, 3) := by decide +kernel
theorem d_X7_refusesGoal_4 : decode cX7_refusesGoal 4 = .ok (.iload_n 1, 1) := by decide +kernel
theorem d_X7_refusesGoal_5 : decode cX7_refusesGoal 5 = .ok (.invokevirtual 128, 3) := by decide +kernel
theorem d_X7_refusesGoal_8 : decode cX7_refusesGoal 8 = .ok (.ifCond .eq 14, 3) := by decide +kernel
theorem d_X7_refusesGoal_11 : decode cX7_refusesGoal 11 = .ok (.aload_n 0, 1) := by decide +kernel
theorem d_X7_refusesGoal_12 : decode cX7_refusesGoal 12 = .ok (.getfield 12, 3) := by decide +kernel
theorem d_X7_refusesGoal_15 : decode cX7_refusesGoal 15 = .ok (.iload_n 2, 1) := by decide +kernel
theorem d_X7_refusesGoal_16 : decode cX7_refusesGoal 16 = .ok (.invokevirtual 105, 3) := by decide +kernel
theorem d_X7_refusesGoal_19 : decode cX7_refusesGoal 19 = .ok (.ifCond .ne 10, 3) := by decide +kernel
theorem d_X7_refusesGoal_22 : decode cX7_refusesGoal 22 = .ok (.aload_n 0, 1) := by decide +kernel
theorem d_X7_refusesGoal_23 : decode cX7_refusesGoal 23 = .ok (.iconst 1, 1) := by decide +kernel
theorem d_X7_refusesGoal_24 : decode cX7_refusesGoal 24 = .ok (.iconst 0, 1) := by decide +kernel
theorem d_X7_refusesGoal_25 : decode cX7_refusesGoal 25 = .ok (.invokevirtual 109, 3) := by decide +kernel
theorem d_X7_refusesGoal_28 : decode cX7_refusesGoal 28 = .ok (.ireturn, 1) := by decide +kernel
theorem d_X7_refusesGoal_29 : decode cX7_refusesGoal 29 = .ok (.aload_n 0, 1) := by decide +kernel
theorem d_X7_refusesGoal_30 : decode cX7_refusesGoal 30 = .ok (.getfield 12, 3) := by decide +kernel
theorem d_X7_refusesGoal_33 : decode cX7_refusesGoal 33 = .ok (.getfield 131, 3) := by decide +kernel
theorem d_X7_refusesGoal_36 : decode cX7_refusesGoal 36 = .ok (.iload_n 1, 1) := by decide +kernel
theorem d_X7_refusesGoal_37 : decode cX7_refusesGoal 37 = .ok (.aaload, 1) := by decide +kernel
theorem d_X7_refusesGoal_38 : decode cX7_refusesGoal 38 = .ok (.getfield 230, 3) := by decide +kernel
theorem d_X7_refusesGoal_41 : decode cX7_refusesGoal 41 = .ok (.ifCond .le 22, 3) := by decide +kernel
theorem d_X7_refusesGoal_44 : decode cX7_refusesGoal 44 = .ok (.aload_n 0, 1) := by decide +kernel
theorem d_X7_refusesGoal_45 : decode cX7_refusesGoal 45 = .ok (.bipush 6, 2) := by decide +kernel
theorem d_X7_refusesGoal_47 : decode cX7_refusesGoal 47 = .ok (.aload_n 0, 1) := by decide +kernel
theorem d_X7_refusesGoal_48 : decode cX7_refusesGoal 48 = .ok (.getfield 12, 3) := by decide +kernel
theorem d_X7_refusesGoal_51 : decode cX7_refusesGoal 51 = .ok (.getfield 131, 3) := by decide +kernel
theorem d_X7_refusesGoal_54 : decode cX7_refusesGoal 54 = .ok (.iload_n 1, 1) := by decide +kernel
theorem d_X7_refusesGoal_55 : decode cX7_refusesGoal 55 = .ok (.aaload, 1) := by decide +kernel
theorem d_X7_refusesGoal_56 : decode cX7_refusesGoal 56 = .ok (.getfield 230, 3) := by decide +kernel
theorem d_X7_refusesGoal_59 : decode cX7_refusesGoal 59 = .ok (.invokevirtual 109, 3) := by decide +kernel
theorem d_X7_refusesGoal_62 : decode cX7_refusesGoal 62 = .ok (.ireturn, 1) := by decide +kernel
theorem d_X7_refusesGoal_63 : decode cX7_refusesGoal 63 = .ok (.aload_n 0, 1) := by decide +kernel
theorem d_X7_refusesGoal_64 : decode cX7_refusesGoal 64 = .ok (.getfield 12, 3) := by decide +kernel
theorem d_X7_refusesGoal_67 : decode cX7_refusesGoal 67 = .ok (.getfield 131, 3) := by decide +kernel
theorem d_X7_refusesGoal_70 : decode cX7_refusesGoal 70 = .ok (.iload_n 1, 1) := by decide +kernel
theorem d_X7_refusesGoal_71 : decode cX7_refusesGoal 71 = .ok (.aaload, 1) := by decide +kernel
theorem d_X7_refusesGoal_72 : decode cX7_refusesGoal 72 = .ok (.getfield 233, 3) := by decide +kernel
theorem d_X7_refusesGoal_75 : decode cX7_refusesGoal 75 = .ok (.iload_n 2, 1) := by decide +kernel
theorem d_X7_refusesGoal_76 : decode cX7_refusesGoal 76 = .ok (.if_icmp .ne 11, 3) := by decide +kernel
theorem d_X7_refusesGoal_79 : decode cX7_refusesGoal 79 = .ok (.aload_n 0, 1) := by decide +kernel
theorem d_X7_refusesGoal_80 : decode cX7_refusesGoal 80 = .ok (.bipush 9, 2) := by decide +kernel
theorem d_X7_refusesGoal_82 : decode cX7_refusesGoal 82 = .ok (.iconst 0, 1) := by decide +kernel
theorem d_X7_refusesGoal_83 : decode cX7_refusesGoal 83 = .ok (.invokevirtual 109, 3) := by decide +kernel
theorem d_X7_refusesGoal_86 : decode cX7_refusesGoal 86 = .ok (.ireturn, 1) := by decide +kernel
theorem d_X7_refusesGoal_87 : decode cX7_refusesGoal 87 = .ok (.aload_n 0, 1) := by decide +kernel
theorem d_X7_refusesGoal_88 : decode cX7_refusesGoal 88 = .ok (.getfield 12, 3) := by decide +kernel
theorem d_X7_refusesGoal_91 : decode cX7_refusesGoal 91 = .ok (.iload_n 2, 1) := by decide +kernel
theorem d_X7_refusesGoal_92 : decode cX7_refusesGoal 92 = .ok (.invokevirtual 115, 3) := by decide +kernel
theorem d_X7_refusesGoal_95 : decode cX7_refusesGoal 95 = .ok (.ifCond .ne 10, 3) := by decide +kernel
theorem d_X7_refusesGoal_98 : decode cX7_refusesGoal 98 = .ok (.aload_n 0, 1) := by decide +kernel
theorem d_X7_refusesGoal_99 : decode cX7_refusesGoal 99 = .ok (.iconst 4, 1) := by decide +kernel
theorem d_X7_refusesGoal_100 : decode cX7_refusesGoal 100 = .ok (.iload_n 2, 1) := by decide +kernel
theorem d_X7_refusesGoal_101 : decode cX7_refusesGoal 101 = .ok (.invokevirtual 109, 3) := by decide +kernel
theorem d_X7_refusesGoal_104 : decode cX7_refusesGoal 104 = .ok (.ireturn, 1) := by decide +kernel
theorem d_X7_refusesGoal_105 : decode cX7_refusesGoal 105 = .ok (.iconst 0, 1) := by decide +kernel
theorem d_X7_refusesGoal_106 : decode cX7_refusesGoal 106 = .ok (.ireturn, 1) := by decide +kernel
theorem d_X7_refusesFound_0 : decode cX7_refusesFound 0 = .ok (.iload_n 2, 1) := by decide +kernel
theorem d_X7_refusesFound_1 : decode cX7_refusesFound 1 = .ok (.iconst (-1), 1) := by decide +kernel
theorem d_X7_refusesFound_2 : decode cX7_refusesFound 2 = .ok (.if_icmp .ne 11, 3) := by decide +kernel
theorem d_X7_refusesFound_5 : decode cX7_refusesFound 5 = .ok (.aload_n 0, 1) := by decide +kernel
theorem d_X7_refusesFound_6 : decode cX7_refusesFound 6 = .ok (.bipush 10, 2) := by decide +kernel
theorem d_X7_refusesFound_8 : decode cX7_refusesFound 8 = .ok (.iconst 0, 1) := by decide +kernel
theorem d_X7_refusesFound_9 : decode cX7_refusesFound 9 = .ok (.invokevirtual 109, 3) := by decide +kernel
theorem d_X7_refusesFound_12 : decode cX7_refusesFound 12 = .ok (.ireturn, 1) := by decide +kernel
theorem d_X7_refusesFound_13 : decode cX7_refusesFound 13 = .ok (.aload_n 0, 1) := by decide +kernel
theorem d_X7_refusesFound_14 : decode cX7_refusesFound 14 = .ok (.getfield 45, 3) := by decide +kernel
theorem d_X7_refusesFound_17 : decode cX7_refusesFound 17 = .ok (.iload_n 2, 1) := by decide +kernel
theorem d_X7_refusesFound_18 : decode cX7_refusesFound 18 = .ok (.invokevirtual 236, 3) := by decide +kernel
theorem d_X7_refusesFound_21 : decode cX7_refusesFound 21 = .ok (.aload_n 0, 1) := by decide +kernel
theorem d_X7_refusesFound_22 : decode cX7_refusesFound 22 = .ok (.getfield 12, 3) := by decide +kernel
theorem d_X7_refusesFound_25 : decode cX7_refusesFound 25 = .ok (.iload_n 1, 1) := by decide +kernel
theorem d_X7_refusesFound_26 : decode cX7_refusesFound 26 = .ok (.invokevirtual 223, 3) := by decide +kernel
theorem d_X7_refusesFound_29 : decode cX7_refusesFound 29 = .ok (.imul, 1) := by decide +kernel
theorem d_X7_refusesFound_30 : decode cX7_refusesFound 30 = .ok (.istore_n 3, 1) := by decide +kernel
theorem d_X7_refusesFound_31 : decode cX7_refusesFound 31 = .ok (.aload_n 0, 1) := by decide +kernel
theorem d_X7_refusesFound_32 : decode cX7_refusesFound 32 = .ok (.getfield 12, 3) := by decide +kernel
theorem d_X7_refusesFound_35 : decode cX7_refusesFound 35 = .ok (.getfield 131, 3) := by decide +kernel
theorem d_X7_refusesFound_38 : decode cX7_refusesFound 38 = .ok (.iload_n 1, 1) := by decide +kernel
theorem d_X7_refusesFound_39 : decode cX7_refusesFound 39 = .ok (.aaload, 1) := by decide +kernel
theorem d_X7_refusesFound_40 : decode cX7_refusesFound 40 = .ok (.getfield 239, 3) := by decide +kernel
theorem d_X7_refusesFound_43 : decode cX7_refusesFound 43 = .ok (.iload_n 3, 1) := by decide +kernel
theorem d_X7_refusesFound_44 : decode cX7_refusesFound 44 = .ok (.if_icmp .ge 11, 3) := by decide +kernel
theorem d_X7_refusesFound_47 : decode cX7_refusesFound 47 = .ok (.aload_n 0, 1) := by decide +kernel
theorem d_X7_refusesFound_48 : decode cX7_refusesFound 48 = .ok (.bipush 11, 2) := by decide +kernel
theorem d_X7_refusesFound_50 : decode cX7_refusesFound 50 = .ok (.iload_n 3, 1) := by decide +kernel
theorem d_X7_refusesFound_51 : decode cX7_refusesFound 51 = .ok (.invokevirtual 109, 3) := by decide +kernel
theorem d_X7_refusesFound_54 : decode cX7_refusesFound 54 = .ok (.ireturn, 1) := by decide +kernel
theorem d_X7_refusesFound_55 : decode cX7_refusesFound 55 = .ok (.iconst 0, 1) := by decide +kernel
theorem d_X7_refusesFound_56 : decode cX7_refusesFound 56 = .ok (.ireturn, 1) := by decide +kernel
theorem d_X7_cancel_0 : decode cX7_cancel 0 = .ok (.aload_n 0, 1) := by decide +kernel
theorem d_X7_cancel_1 : decode cX7_cancel 1 = .ok (.iload_n 1, 1) := by decide +kernel
theorem d_X7_cancel_2 : decode cX7_cancel 2 = .ok (.invokevirtual 242, 3) := by decide +kernel
theorem d_X7_cancel_5 : decode cX7_cancel 5 = .ok (.ifCond .eq 11, 3) := by decide +kernel
theorem d_X7_cancel_8 : decode cX7_cancel 8 = .ok (.new 98, 3) := by decide +kernel
theorem d_X7_cancel_11 : decode cX7_cancel 11 = .ok (.dup, 1) := by decide +kernel
theorem d_X7_cancel_12 : decode cX7_cancel 12 = .ok (.invokespecial 100, 3) := by decide +kernel
theorem d_X7_cancel_15 : decode cX7_cancel 15 = .ok (.athrow, 1) := by decide +kernel
theorem d_X7_cancel_16 : decode cX7_cancel 16 = .ok (.aload_n 0, 1) := by decide +kernel
theorem d_X7_cancel_17 : decode cX7_cancel 17 = .ok (.getfield 22, 3) := by decide +kernel
theorem d_X7_cancel_20 : decode cX7_cancel 20 = .ok (.aload_n 0, 1) := by decide +kernel
theorem d_X7_cancel_21 : decode cX7_cancel 21 = .ok (.getfield 12, 3) := by decide +kernel
theorem d_X7_cancel_24 : decode cX7_cancel 24 = .ok (.invokevirtual 84, 3) := by decide +kernel
theorem d_X7_cancel_27 : decode cX7_cancel 27 = .ok (.aload_n 0, 1) := by decide +kernel
theorem d_X7_cancel_28 : decode cX7_cancel 28 = .ok (.getfield 12, 3) := by decide +kernel
theorem d_X7_cancel_31 : decode cX7_cancel 31 = .ok (.getfield 131, 3) := by decide +kernel
theorem d_X7_cancel_34 : decode cX7_cancel 34 = .ok (.iload_n 1, 1) := by decide +kernel
theorem d_X7_cancel_35 : decode cX7_cancel 35 = .ok (.aaload, 1) := by decide +kernel
theorem d_X7_cancel_36 : decode cX7_cancel 36 = .ok (.getfield 230, 3) := by decide +kernel
theorem d_X7_cancel_39 : decode cX7_cancel 39 = .ok (.istore_n 2, 1) := by decide +kernel
theorem d_X7_cancel_40 : decode cX7_cancel 40 = .ok (.aload_n 0, 1) := by decide +kernel
theorem d_X7_cancel_41 : decode cX7_cancel 41 = .ok (.getfield 12, 3) := by decide +kernel
theorem d_X7_cancel_44 : decode cX7_cancel 44 = .ok (.getfield 131, 3) := by decide +kernel
theorem d_X7_cancel_47 : decode cX7_cancel 47 = .ok (.iload_n 1, 1) := by decide +kernel
theorem d_X7_cancel_48 : decode cX7_cancel 48 = .ok (.aaload, 1) := by decide +kernel
theorem d_X7_cancel_49 : decode cX7_cancel 49 = .ok (.iconst 0, 1) := by decide +kernel
theorem d_X7_cancel_50 : decode cX7_cancel 50 = .ok (.putfield 230, 3) := by decide +kernel
theorem d_X7_cancel_53 : decode cX7_cancel 53 = .ok (.iload_n 2, 1) := by decide +kernel
theorem d_X7_cancel_54 : decode cX7_cancel 54 = .ok (.ireturn, 1) := by decide +kernel
theorem d_X7_refusesCancel_0 : decode cX7_refusesCancel 0 = .ok (.aload_n 0, 1) := by decide +kernel
theorem d_X7_refusesCancel_1 : decode cX7_refusesCancel 1 = .ok (.getfield 12, 3) := by decide +kernel
theorem d_X7_refusesCancel_4 : decode cX7_refusesCancel 4 = .ok (.iload_n 1, 1) := by decide +kernel
theorem d_X7_refusesCancel_5 : decode cX7_refusesCancel 5 = .ok (.invokevirtual 128, 3) := by decide +kernel
theorem d_X7_refusesCancel_8 : decode cX7_refusesCancel 8 = .ok (.ifCond .ne 10, 3) := by decide +kernel
theorem d_X7_refusesCancel_11 : decode cX7_refusesCancel 11 = .ok (.aload_n 0, 1) := by decide +kernel
theorem d_X7_refusesCancel_12 : decode cX7_refusesCancel 12 = .ok (.iconst 1, 1) := by decide +kernel
theorem d_X7_refusesCancel_13 : decode cX7_refusesCancel 13 = .ok (.iconst 0, 1) := by decide +kernel
theorem d_X7_refusesCancel_14 : decode cX7_refusesCancel 14 = .ok (.invokevirtual 109, 3) := by decide +kernel
theorem d_X7_refusesCancel_17 : decode cX7_refusesCancel 17 = .ok (.ireturn, 1) := by decide +kernel
theorem d_X7_refusesCancel_18 : decode cX7_refusesCancel 18 = .ok (.aload_n 0, 1) := by decide +kernel
theorem d_X7_refusesCancel_19 : decode cX7_refusesCancel 19 = .ok (.getfield 12, 3) := by decide +kernel
theorem d_X7_refusesCancel_22 : decode cX7_refusesCancel 22 = .ok (.getfield 131, 3) := by decide +kernel
theorem d_X7_refusesCancel_25 : decode cX7_refusesCancel 25 = .ok (.iload_n 1, 1) := by decide +kernel
theorem d_X7_refusesCancel_26 : decode cX7_refusesCancel 26 = .ok (.aaload, 1) := by decide +kernel
theorem d_X7_refusesCancel_27 : decode cX7_refusesCancel 27 = .ok (.getfield 230, 3) := by decide +kernel
theorem d_X7_refusesCancel_30 : decode cX7_refusesCancel 30 = .ok (.ifCond .ne 11, 3) := by decide +kernel
theorem d_X7_refusesCancel_33 : decode cX7_refusesCancel 33 = .ok (.aload_n 0, 1) := by decide +kernel
theorem d_X7_refusesCancel_34 : decode cX7_refusesCancel 34 = .ok (.bipush 14, 2) := by decide +kernel
theorem d_X7_refusesCancel_36 : decode cX7_refusesCancel 36 = .ok (.iconst 0, 1) := by decide +kernel
theorem d_X7_refusesCancel_37 : decode cX7_refusesCancel 37 = .ok (.invokevirtual 109, 3) := by decide +kernel
theorem d_X7_refusesCancel_40 : decode cX7_refusesCancel 40 = .ok (.ireturn, 1) := by decide +kernel
theorem d_X7_refusesCancel_41 : decode cX7_refusesCancel 41 = .ok (.aload_n 0, 1) := by decide +kernel
theorem d_X7_refusesCancel_42 : decode cX7_refusesCancel 42 = .ok (.aload_n 0, 1) := by decide +kernel
theorem d_X7_refusesCancel_43 : decode cX7_refusesCancel 43 = .ok (.getfield 12, 3) := by decide +kernel
theorem d_X7_refusesCancel_46 : decode cX7_refusesCancel 46 = .ok (.getfield 131, 3) := by decide +kernel
theorem d_X7_refusesCancel_49 : decode cX7_refusesCancel 49 = .ok (.iload_n 1, 1) := by decide +kernel
theorem d_X7_refusesCancel_50 : decode cX7_refusesCancel 50 = .ok (.aaload, 1) := by decide +kernel
theorem d_X7_refusesCancel_51 : decode cX7_refusesCancel 51 = .ok (.getfield 233, 3) := by decide +kernel
theorem d_X7_refusesCancel_54 : decode cX7_refusesCancel 54 = .ok (.iload_n 1, 1) := by decide +kernel
theorem d_X7_refusesCancel_55 : decode cX7_refusesCancel 55 = .ok (.invokevirtual 118, 3) := by decide +kernel
theorem d_X7_refusesCancel_58 : decode cX7_refusesCancel 58 = .ok (.ireturn, 1) := by decide +kernel
theorem d_X7_pass_0 : decode cX7_pass 0 = .ok (.aload_n 0, 1) := by decide +kernel
theorem d_X7_pass_1 : decode cX7_pass 1 = .ok (.iload_n 1, 1) := by decide +kernel
theorem d_X7_pass_2 : decode cX7_pass 2 = .ok (.invokevirtual 245, 3) := by decide +kernel
theorem d_X7_pass_5 : decode cX7_pass 5 = .ok (.ifCond .eq 11, 3) := by decide +kernel
theorem d_X7_pass_8 : decode cX7_pass 8 = .ok (.new 98, 3) := by decide +kernel
theorem d_X7_pass_11 : decode cX7_pass 11 = .ok (.dup, 1) := by decide +kernel
theorem d_X7_pass_12 : decode cX7_pass 12 = .ok (.invokespecial 100, 3) := by decide +kernel
theorem d_X7_pass_15 : decode cX7_pass 15 = .ok (.athrow, 1) := by decide +kernel
theorem d_X7_pass_16 : decode cX7_pass 16 = .ok (.aload_n 0, 1) := by decide +kernel
theorem d_X7_pass_17 : decode cX7_pass 17 = .ok (.getfield 22, 3) := by decide +kernel
theorem d_X7_pass_20 : decode cX7_pass 20 = .ok (.aload_n 0, 1) := by decide +kernel
theorem d_X7_pass_21 : decode cX7_pass 21 = .ok (.getfield 12, 3) := by decide +kernel
theorem d_X7_pass_24 : decode cX7_pass 24 = .ok (.invokevirtual 84, 3) := by decide +kernel
theorem d_X7_pass_27 : decode cX7_pass 27 = .ok (.iconst 0, 1) := by decide +kernel
theorem d_X7_pass_28 : decode cX7_pass 28 = .ok (.istore_n 2, 1) := by decide +kernel
theorem d_X7_pass_29 : decode cX7_pass 29 = .ok (.iconst 0, 1) := by decide +kernel
theorem d_X7_pass_30 : decode cX7_pass 30 = .ok (.istore_n 3, 1) := by decide +kernel
theorem d_X7_pass_31 : decode cX7_pass 31 = .ok (.iload_n 3, 1) := by decide +kernel
theorem d_X7_pass_32 : decode cX7_pass 32 = .ok (.iload_n 1, 1) := by decide +kernel
theorem d_X7_pass_33 : decode cX7_pass 33 = .ok (.if_icmp .ge 19, 3) := by decide +kernel
theorem d_X7_pass_36 : decode cX7_pass 36 = .ok (.iload_n 2, 1) := by decide +kernel
theorem d_X7_pass_37 : decode cX7_pass 37 = .ok (.aload_n 0, 1) := by decide +kernel
theorem d_X7_pass_38 : decode cX7_pass 38 = .ok (.getfield 12, 3) := by decide +kernel
theorem d_X7_pass_41 : decode cX7_pass 41 = .ok (.invokevirtual 248, 3) := by decide +kernel
theorem d_X7_pass_44 : decode cX7_pass 44 = .ok (.iadd, 1) := by decide +kernel
theorem d_X7_pass_45 : decode cX7_pass 45 = .ok (.istore_n 2, 1) := by decide +kernel
theorem d_X7_pass_46 : decode cX7_pass 46 = .ok (.iinc 3 1, 3) := by decide +kernel
theorem d_X7_pass_49 : decode cX7_pass 49 = .ok (.goto (-18), 3) := by decide +kernel
theorem d_X7_pass_52 : decode cX7_pass 52 = .ok (.iload_n 2, 1) := by decide +kernel
theorem d_X7_pass_53 : decode cX7_pass 53 = .ok (.ireturn, 1) := by decide +kernel
theorem d_X7_refusesPass_0 : decode cX7_refusesPass 0 = .ok (.iload_n 1, 1) := by decide +kernel
theorem d_X7_refusesPass_1 : decode cX7_refusesPass 1 = .ok (.iconst 1, 1) := by decide +kernel
theorem d_X7_refusesPass_2 : decode cX7_refusesPass 2 = .ok (.if_icmp .lt 9, 3) := by decide +kernel
theorem d_X7_refusesPass_5 : decode cX7_refusesPass 5 = .ok (.iload_n 1, 1) := by decide +kernel
theorem d_X7_refusesPass_6 : decode cX7_refusesPass 6 = .ok (.bipush 99, 2) := by decide +kernel
theorem d_X7_refusesPass_8 : decode cX7_refusesPass 8 = .ok (.if_icmp .le 10, 3) := by decide +kernel
theorem d_X7_refusesPass_11 : decode cX7_refusesPass 11 = .ok (.aload_n 0, 1) := by decide +kernel
theorem d_X7_refusesPass_12 : decode cX7_refusesPass 12 = .ok (.iconst 2, 1) := by decide +kernel
theorem d_X7_refusesPass_13 : decode cX7_refusesPass 13 = .ok (.iconst 0, 1) := by decide +kernel
theorem d_X7_refusesPass_14 : decode cX7_refusesPass 14 = .ok (.invokevirtual 109, 3) := by decide +kernel
theorem d_X7_refusesPass_17 : decode cX7_refusesPass 17 = .ok (.ireturn, 1) := by decide +kernel
theorem d_X7_refusesPass_18 : decode cX7_refusesPass 18 = .ok (.iconst 0, 1) := by decide +kernel
theorem d_X7_refusesPass_19 : decode cX7_refusesPass 19 = .ok (.ireturn, 1) := by decide +kernel
theorem d_X7_cell_0 : decode cX7_cell 0 = .ok (.aload_n 0, 1) := by decide +kernel
theorem d_X7_cell_1 : decode cX7_cell 1 = .ok (.getfield 12, 3) := by decide +kernel
theorem d_X7_cell_4 : decode cX7_cell 4 = .ok (.iload_n 1, 1) := by decide +kernel
theorem d_X7_cell_5 : decode cX7_cell 5 = .ok (.invokevirtual 105, 3) := by decide +kernel
theorem d_X7_cell_8 : decode cX7_cell 8 = .ok (.ifCond .ne 11, 3) := by decide +kernel
theorem d_X7_cell_11 : decode cX7_cell 11 = .ok (.new 251, 3) := by decide +kernel
theorem d_X7_cell_14 : decode cX7_cell 14 = .ok (.dup, 1) := by decide +kernel
theorem d_X7_cell_15 : decode cX7_cell 15 = .ok (.invokespecial 253, 3) := by decide +kernel
theorem d_X7_cell_18 : decode cX7_cell 18 = .ok (.athrow, 1) := by decide +kernel
theorem d_X7_cell_19 : decode cX7_cell 19 = .ok (.iload_n 2, 1) := by decide +kernel
theorem d_X7_cell_20 : decode cX7_cell 20 = .ok (.tableswitch 78 0 3 #[32, 42, 59, 69], 32) := by decide +kernel
theorem d_X7_cell_52 : decode cX7_cell 52 = .ok (.aload_n 0, 1) := by decide +kernel
theorem d_X7_cell_53 : decode cX7_cell 53 = .ok (.getfield 12, 3) := by decide +kernel
theorem d_X7_cell_56 : decode cX7_cell 56 = .ok (.getfield 157, 3) := by decide +kernel
theorem d_X7_cell_59 : decode cX7_cell 59 = .ok (.iload_n 1, 1) := by decide +kernel
theorem d_X7_cell_60 : decode cX7_cell 60 = .ok (.iaload, 1) := by decide +kernel
theorem d_X7_cell_61 : decode cX7_cell 61 = .ok (.ireturn, 1) := by decide +kernel
theorem d_X7_cell_62 : decode cX7_cell 62 = .ok (.aload_n 0, 1) := by decide +kernel
theorem d_X7_cell_63 : decode cX7_cell 63 = .ok (.getfield 12, 3) := by decide +kernel
theorem d_X7_cell_66 : decode cX7_cell 66 = .ok (.iload_n 1, 1) := by decide +kernel
theorem d_X7_cell_67 : decode cX7_cell 67 = .ok (.invokevirtual 115, 3) := by decide +kernel
theorem d_X7_cell_70 : decode cX7_cell 70 = .ok (.ifCond .eq 7, 3) := by decide +kernel
theorem d_X7_cell_73 : decode cX7_cell 73 = .ok (.iconst 1, 1) := by decide +kernel
theorem d_X7_cell_74 : decode cX7_cell 74 = .ok (.goto 4, 3) := by decide +kernel
theorem d_X7_cell_77 : decode cX7_cell 77 = .ok (.iconst 0, 1) := by decide +kernel
theorem d_X7_cell_78 : decode cX7_cell 78 = .ok (.ireturn, 1) := by decide +kernel
theorem d_X7_cell_79 : decode cX7_cell 79 = .ok (.aload_n 0, 1) := by decide +kernel
theorem d_X7_cell_80 : decode cX7_cell 80 = .ok (.getfield 12, 3) := by decide +kernel
theorem d_X7_cell_83 : decode cX7_cell 83 = .ok (.iload_n 1, 1) := by decide +kernel
theorem d_X7_cell_84 : decode cX7_cell 84 = .ok (.iconst 0, 1) := by decide +kernel
theorem d_X7_cell_85 : decode cX7_cell 85 = .ok (.invokevirtual 254, 3) := by decide +kernel
theorem d_X7_cell_88 : decode cX7_cell 88 = .ok (.ireturn, 1) := by decide +kernel
theorem d_X7_cell_89 : decode cX7_cell 89 = .ok (.aload_n 0, 1) := by decide +kernel
theorem d_X7_cell_90 : decode cX7_cell 90 = .ok (.getfield 12, 3) := by decide +kernel
theorem d_X7_cell_93 : decode cX7_cell 93 = .ok (.iload_n 1, 1) := by decide +kernel
theorem d_X7_cell_94 : decode cX7_cell 94 = .ok (.invokevirtual 257, 3) := by decide +kernel
theorem d_X7_cell_97 : decode cX7_cell 97 = .ok (.ireturn, 1) := by decide +kernel
theorem d_X7_cell_98 : decode cX7_cell 98 = .ok (.new 81, 3) := by decide +kernel
theorem d_X7_cell_101 : decode cX7_cell 101 = .ok (.dup, 1) := by decide +kernel
theorem d_X7_cell_102 : decode cX7_cell 102 = .ok (.invokespecial 83, 3) := by decide +kernel
theorem d_X7_cell_105 : decode cX7_cell 105 = .ok (.athrow, 1) := by decide +kernel
theorem d_X7_letter_0 : decode cX7_letter 0 = .ok (.aload_n 0, 1) := by decide +kernel
theorem d_X7_letter_1 : decode cX7_letter 1 = .ok (.getfield 12, 3) := by decide +kernel
theorem d_X7_letter_4 : decode cX7_letter 4 = .ok (.iload_n 1, 1) := by decide +kernel
theorem d_X7_letter_5 : decode cX7_letter 5 = .ok (.invokevirtual 105, 3) := by decide +kernel
theorem d_X7_letter_8 : decode cX7_letter 8 = .ok (.ifCond .ne 11, 3) := by decide +kernel
theorem d_X7_letter_11 : decode cX7_letter 11 = .ok (.new 251, 3) := by decide +kernel
theorem d_X7_letter_14 : decode cX7_letter 14 = .ok (.dup, 1) := by decide +kernel
theorem d_X7_letter_15 : decode cX7_letter 15 = .ok (.invokespecial 253, 3) := by decide +kernel
theorem d_X7_letter_18 : decode cX7_letter 18 = .ok (.athrow, 1) := by decide +kernel
theorem d_X7_letter_19 : decode cX7_letter 19 = .ok (.aload_n 0, 1) := by decide +kernel
theorem d_X7_letter_20 : decode cX7_letter 20 = .ok (.getfield 12, 3) := by decide +kernel
theorem d_X7_letter_23 : decode cX7_letter 23 = .ok (.iload_n 1, 1) := by decide +kernel
theorem d_X7_letter_24 : decode cX7_letter 24 = .ok (.iconst 0, 1) := by decide +kernel
theorem d_X7_letter_25 : decode cX7_letter 25 = .ok (.invokevirtual 254, 3) := by decide +kernel
theorem d_X7_letter_28 : decode cX7_letter 28 = .ok (.istore_n 2, 1) := by decide +kernel
theorem d_X7_letter_29 : decode cX7_letter 29 = .ok (.iload_n 2, 1) := by decide +kernel
theorem d_X7_letter_30 : decode cX7_letter 30 = .ok (.iconst (-1), 1) := by decide +kernel
theorem d_X7_letter_31 : decode cX7_letter 31 = .ok (.if_icmp .eq 9, 3) := by decide +kernel
theorem d_X7_letter_34 : decode cX7_letter 34 = .ok (.bipush 48, 2) := by decide +kernel
theorem d_X7_letter_36 : decode cX7_letter 36 = .ok (.iload_n 2, 1) := by decide +kernel
theorem d_X7_letter_37 : decode cX7_letter 37 = .ok (.iadd, 1) := by decide +kernel
theorem d_X7_letter_38 : decode cX7_letter 38 = .ok (.i2c, 1) := by decide +kernel
theorem d_X7_letter_39 : decode cX7_letter 39 = .ok (.ireturn, 1) := by decide +kernel
theorem d_X7_letter_40 : decode cX7_letter 40 = .ok (.aload_n 0, 1) := by decide +kernel
theorem d_X7_letter_41 : decode cX7_letter 41 = .ok (.getfield 12, 3) := by decide +kernel
theorem d_X7_letter_44 : decode cX7_letter 44 = .ok (.getfield 189, 3) := by decide +kernel
theorem d_X7_letter_47 : decode cX7_letter 47 = .ok (.iload_n 1, 1) := by decide +kernel
theorem d_X7_letter_48 : decode cX7_letter 48 = .ok (.baload, 1) := by decide +kernel
theorem d_X7_letter_49 : decode cX7_letter 49 = .ok (.ifCond .eq 8, 3) := by decide +kernel
theorem d_X7_letter_52 : decode cX7_letter 52 = .ok (.bipush 120, 2) := by decide +kernel
theorem d_X7_letter_54 : decode cX7_letter 54 = .ok (.goto 15, 3) := by decide +kernel
theorem d_X7_letter_57 : decode cX7_letter 57 = .ok (.aload_n 0, 1) := by decide +kernel
theorem d_X7_letter_58 : decode cX7_letter 58 = .ok (.getfield 12, 3) := by decide +kernel
theorem d_X7_letter_61 : decode cX7_letter 61 = .ok (.getfield 157, 3) := by decide +kernel
theorem d_X7_letter_64 : decode cX7_letter 64 = .ok (.iload_n 1, 1) := by decide +kernel
theorem d_X7_letter_65 : decode cX7_letter 65 = .ok (.iaload, 1) := by decide +kernel
theorem d_X7_letter_66 : decode cX7_letter 66 = .ok (.invokestatic 260, 3) := by decide +kernel
theorem d_X7_letter_69 : decode cX7_letter 69 = .ok (.ireturn, 1) := by decide +kernel
theorem d_X7_distance_0 : decode cX7_distance 0 = .ok (.aload_n 0, 1) := by decide +kernel
theorem d_X7_distance_1 : decode cX7_distance 1 = .ok (.getfield 12, 3) := by decide +kernel
theorem d_X7_distance_4 : decode cX7_distance 4 = .ok (.iload_n 1, 1) := by decide +kernel
theorem d_X7_distance_5 : decode cX7_distance 5 = .ok (.invokevirtual 105, 3) := by decide +kernel
theorem d_X7_distance_8 : decode cX7_distance 8 = .ok (.ifCond .eq 14, 3) := by decide +kernel
theorem d_X7_distance_11 : decode cX7_distance 11 = .ok (.aload_n 0, 1) := by decide +kernel
theorem d_X7_distance_12 : decode cX7_distance 12 = .ok (.getfield 12, 3) := by decide +kernel
theorem d_X7_distance_15 : decode cX7_distance 15 = .ok (.iload_n 2, 1) := by decide +kernel
theorem d_X7_distance_16 : decode cX7_distance 16 = .ok (.invokevirtual 105, 3) := by decide +kernel
theorem d_X7_distance_19 : decode cX7_distance 19 = .ok (.ifCond .ne 11, 3) := by decide +kernel
theorem d_X7_distance_22 : decode cX7_distance 22 = .ok (.new 251, 3) := by decide +kernel
theorem d_X7_distance_25 : decode cX7_distance 25 = .ok (.dup, 1) := by decide +kernel
theorem d_X7_distance_26 : decode cX7_distance 26 = .ok (.invokespecial 253, 3) := by decide +kernel
theorem d_X7_distance_29 : decode cX7_distance 29 = .ok (.athrow, 1) := by decide +kernel
theorem d_X7_distance_30 : decode cX7_distance 30 = .ok (.aload_n 0, 1) := by decide +kernel
theorem d_X7_distance_31 : decode cX7_distance 31 = .ok (.getfield 38, 3) := by decide +kernel
theorem d_X7_distance_34 : decode cX7_distance 34 = .ok (.iload_n 1, 1) := by decide +kernel
theorem d_X7_distance_35 : decode cX7_distance 35 = .ok (.iload_n 2, 1) := by decide +kernel
theorem d_X7_distance_36 : decode cX7_distance 36 = .ok (.invokevirtual 264, 3) := by decide +kernel
theorem d_X7_distance_39 : decode cX7_distance 39 = .ok (.istore_n 3, 1) := by decide +kernel
theorem d_X7_distance_40 : decode cX7_distance 40 = .ok (.iload_n 3, 1) := by decide +kernel
theorem d_X7_distance_41 : decode cX7_distance 41 = .ok (.iconst (-1), 1) := by decide +kernel
theorem d_X7_distance_42 : decode cX7_distance 42 = .ok (.if_icmp .ne 11, 3) := by decide +kernel
theorem d_X7_distance_45 : decode cX7_distance 45 = .ok (.new 267, 3) := by decide +kernel
theorem d_X7_distance_48 : decode cX7_distance 48 = .ok (.dup, 1) := by decide +kernel
theorem d_X7_distance_49 : decode cX7_distance 49 = .ok (.invokespecial 269, 3) := by decide +kernel
theorem d_X7_distance_52 : decode cX7_distance 52 = .ok (.athrow, 1) := by decide +kernel
theorem d_X7_distance_53 : decode cX7_distance 53 = .ok (.iload_n 3, 1) := by decide +kernel
theorem d_X7_distance_54 : decode cX7_distance 54 = .ok (.ireturn, 1) := by decide +kernel
theorem d_X7_distanceAgain_0 : decode cX7_distanceAgain 0 = .ok (.aload_n 0, 1) := by decide +kernel
theorem d_X7_distanceAgain_1 : decode cX7_distanceAgain 1 = .ok (.getfield 12, 3) := by decide +kernel
theorem d_X7_distanceAgain_4 : decode cX7_distanceAgain 4 = .ok (.iload_n 1, 1) := by decide +kernel
theorem d_X7_distanceAgain_5 : decode cX7_distanceAgain 5 = .ok (.invokevirtual 105, 3) := by decide +kernel
theorem d_X7_distanceAgain_8 : decode cX7_distanceAgain 8 = .ok (.ifCond .eq 14, 3) := by decide +kernel
theorem d_X7_distanceAgain_11 : decode cX7_distanceAgain 11 = .ok (.aload_n 0, 1) := by decide +kernel
theorem d_X7_distanceAgain_12 : decode cX7_distanceAgain 12 = .ok (.getfield 12, 3) := by decide +kernel
theorem d_X7_distanceAgain_15 : decode cX7_distanceAgain 15 = .ok (.iload_n 2, 1) := by decide +kernel
theorem d_X7_distanceAgain_16 : decode cX7_distanceAgain 16 = .ok (.invokevirtual 105, 3) := by decide +kernel
theorem d_X7_distanceAgain_19 : decode cX7_distanceAgain 19 = .ok (.ifCond .ne 11, 3) := by decide +kernel
theorem d_X7_distanceAgain_22 : decode cX7_distanceAgain 22 = .ok (.new 251, 3) := by decide +kernel
theorem d_X7_distanceAgain_25 : decode cX7_distanceAgain 25 = .ok (.dup, 1) := by decide +kernel
theorem d_X7_distanceAgain_26 : decode cX7_distanceAgain 26 = .ok (.invokespecial 253, 3) := by decide +kernel
theorem d_X7_distanceAgain_29 : decode cX7_distanceAgain 29 = .ok (.athrow, 1) := by decide +kernel
theorem d_X7_distanceAgain_30 : decode cX7_distanceAgain 30 = .ok (.aload_n 0, 1) := by decide +kernel
theorem d_X7_distanceAgain_31 : decode cX7_distanceAgain 31 = .ok (.getfield 38, 3) := by decide +kernel
theorem d_X7_distanceAgain_34 : decode cX7_distanceAgain 34 = .ok (.iload_n 1, 1) := by decide +kernel
theorem d_X7_distanceAgain_35 : decode cX7_distanceAgain 35 = .ok (.iload_n 2, 1) := by decide +kernel
theorem d_X7_distanceAgain_36 : decode cX7_distanceAgain 36 = .ok (.invokevirtual 270, 3) := by decide +kernel
theorem d_X7_distanceAgain_39 : decode cX7_distanceAgain 39 = .ok (.istore_n 3, 1) := by decide +kernel
theorem d_X7_distanceAgain_40 : decode cX7_distanceAgain 40 = .ok (.iload_n 3, 1) := by decide +kernel
theorem d_X7_distanceAgain_41 : decode cX7_distanceAgain 41 = .ok (.iconst (-1), 1) := by decide +kernel
theorem d_X7_distanceAgain_42 : decode cX7_distanceAgain 42 = .ok (.if_icmp .ne 11, 3) := by decide +kernel
theorem d_X7_distanceAgain_45 : decode cX7_distanceAgain 45 = .ok (.new 267, 3) := by decide +kernel
theorem d_X7_distanceAgain_48 : decode cX7_distanceAgain 48 = .ok (.dup, 1) := by decide +kernel
theorem d_X7_distanceAgain_49 : decode cX7_distanceAgain 49 = .ok (.invokespecial 269, 3) := by decide +kernel
theorem d_X7_distanceAgain_52 : decode cX7_distanceAgain 52 = .ok (.athrow, 1) := by decide +kernel
theorem d_X7_distanceAgain_53 : decode cX7_distanceAgain 53 = .ok (.iload_n 3, 1) := by decide +kernel
theorem d_X7_distanceAgain_54 : decode cX7_distanceAgain 54 = .ok (.ireturn, 1) := by decide +kernel
theorem d_X7_reach_0 : decode cX7_reach 0 = .ok (.aload_n 0, 1) := by decide +kernel
theorem d_X7_reach_1 : decode cX7_reach 1 = .ok (.getfield 12, 3) := by decide +kernel
theorem d_X7_reach_4 : decode cX7_reach 4 = .ok (.iload_n 1, 1) := by decide +kernel
theorem d_X7_reach_5 : decode cX7_reach 5 = .ok (.invokevirtual 105, 3) := by decide +kernel
theorem d_X7_reach_8 : decode cX7_reach 8 = .ok (.ifCond .ne 11, 3) := by decide +kernel
theorem d_X7_reach_11 : decode cX7_reach 11 = .ok (.new 251, 3) := by decide +kernel
theorem d_X7_reach_14 : decode cX7_reach 14 = .ok (.dup, 1) := by decide +kernel
theorem d_X7_reach_15 : decode cX7_reach 15 = .ok (.invokespecial 253, 3) := by decide +kernel
theorem d_X7_reach_18 : decode cX7_reach 18 = .ok (.athrow, 1) := by decide +kernel
theorem d_X7_reach_19 : decode cX7_reach 19 = .ok (.aload_n 0, 1) := by decide +kernel
theorem d_X7_reach_20 : decode cX7_reach 20 = .ok (.getfield 38, 3) := by decide +kernel
theorem d_X7_reach_23 : decode cX7_reach 23 = .ok (.iload_n 1, 1) := by decide +kernel
theorem d_X7_reach_24 : decode cX7_reach 24 = .ok (.invokevirtual 273, 3) := by decide +kernel
theorem d_X7_reach_27 : decode cX7_reach 27 = .ok (.ireturn, 1) := by decide +kernel
theorem d_X7_farthest_0 : decode cX7_farthest 0 = .ok (.aload_n 0, 1) := by decide +kernel
theorem d_X7_farthest_1 : decode cX7_farthest 1 = .ok (.getfield 12, 3) := by decide +kernel
theorem d_X7_farthest_4 : decode cX7_farthest 4 = .ok (.iload_n 1, 1) := by decide +kernel
theorem d_X7_farthest_5 : decode cX7_farthest 5 = .ok (.invokevirtual 105, 3) := by decide +kernel
theorem d_X7_farthest_8 : decode cX7_farthest 8 = .ok (.ifCond .ne 11, 3) := by decide +kernel
theorem d_X7_farthest_11 : decode cX7_farthest 11 = .ok (.new 251, 3) := by decide +kernel
theorem d_X7_farthest_14 : decode cX7_farthest 14 = .ok (.dup, 1) := by decide +kernel
theorem d_X7_farthest_15 : decode cX7_farthest 15 = .ok (.invokespecial 253, 3) := by decide +kernel
theorem d_X7_farthest_18 : decode cX7_farthest 18 = .ok (.athrow, 1) := by decide +kernel
theorem d_X7_farthest_19 : decode cX7_farthest 19 = .ok (.aload_n 0, 1) := by decide +kernel
theorem d_X7_farthest_20 : decode cX7_farthest 20 = .ok (.getfield 38, 3) := by decide +kernel
theorem d_X7_farthest_23 : decode cX7_farthest 23 = .ok (.iload_n 1, 1) := by decide +kernel
theorem d_X7_farthest_24 : decode cX7_farthest 24 = .ok (.invokevirtual 276, 3) := by decide +kernel
theorem d_X7_farthest_27 : decode cX7_farthest 27 = .ok (.ireturn, 1) := by decide +kernel
theorem d_X7_robotOf_0 : decode cX7_robotOf 0 = .ok (.aload_n 0, 1) := by decide +kernel
theorem d_X7_robotOf_1 : decode cX7_robotOf 1 = .ok (.getfield 12, 3) := by decide +kernel
theorem d_X7_robotOf_4 : decode cX7_robotOf 4 = .ok (.iload_n 1, 1) := by decide +kernel
theorem d_X7_robotOf_5 : decode cX7_robotOf 5 = .ok (.invokevirtual 128, 3) := by decide +kernel
theorem d_X7_robotOf_8 : decode cX7_robotOf 8 = .ok (.ifCond .ne 11, 3) := by decide +kernel
theorem d_X7_robotOf_11 : decode cX7_robotOf 11 = .ok (.new 251, 3) := by decide +kernel
theorem d_X7_robotOf_14 : decode cX7_robotOf 14 = .ok (.dup, 1) := by decide +kernel
theorem d_X7_robotOf_15 : decode cX7_robotOf 15 = .ok (.invokespecial 253, 3) := by decide +kernel
theorem d_X7_robotOf_18 : decode cX7_robotOf 18 = .ok (.athrow, 1) := by decide +kernel
theorem d_X7_robotOf_19 : decode cX7_robotOf 19 = .ok (.aload_n 0, 1) := by decide +kernel
theorem d_X7_robotOf_20 : decode cX7_robotOf 20 = .ok (.getfield 12, 3) := by decide +kernel
theorem d_X7_robotOf_23 : decode cX7_robotOf 23 = .ok (.getfield 131, 3) := by decide +kernel
theorem d_X7_robotOf_26 : decode cX7_robotOf 26 = .ok (.iload_n 1, 1) := by decide +kernel
theorem d_X7_robotOf_27 : decode cX7_robotOf 27 = .ok (.aaload, 1) := by decide +kernel
theorem d_X7_robotOf_28 : decode cX7_robotOf 28 = .ok (.astore_n 3, 1) := by decide +kernel
theorem d_X7_robotOf_29 : decode cX7_robotOf 29 = .ok (.iload_n 2, 1) := by decide +kernel
theorem d_X7_robotOf_30 : decode cX7_robotOf 30 = .ok (.tableswitch 100 0 6 #[42, 47, 52, 57, 62, 78, 95], 42) := by decide +kernel
theorem d_X7_robotOf_72 : decode cX7_robotOf 72 = .ok (.aload_n 3, 1) := by decide +kernel
theorem d_X7_robotOf_73 : decode cX7_robotOf 73 = .ok (.getfield 233, 3) := by decide +kernel
theorem d_X7_robotOf_76 : decode cX7_robotOf 76 = .ok (.ireturn, 1) := by decide +kernel
theorem d_X7_robotOf_77 : decode cX7_robotOf 77 = .ok (.aload_n 3, 1) := by decide +kernel
theorem d_X7_robotOf_78 : decode cX7_robotOf 78 = .ok (.getfield 239, 3) := by decide +kernel
theorem d_X7_robotOf_81 : decode cX7_robotOf 81 = .ok (.ireturn, 1) := by decide +kernel
theorem d_X7_robotOf_82 : decode cX7_robotOf 82 = .ok (.aload_n 3, 1) := by decide +kernel
theorem d_X7_robotOf_83 : decode cX7_robotOf 83 = .ok (.getfield 135, 3) := by decide +kernel
theorem d_X7_robotOf_86 : decode cX7_robotOf 86 = .ok (.ireturn, 1) := by decide +kernel
theorem d_X7_robotOf_87 : decode cX7_robotOf 87 = .ok (.aload_n 3, 1) := by decide +kernel
theorem d_X7_robotOf_88 : decode cX7_robotOf 88 = .ok (.getfield 230, 3) := by decide +kernel
theorem d_X7_robotOf_91 : decode cX7_robotOf 91 = .ok (.ireturn, 1) := by decide +kernel
theorem d_X7_robotOf_92 : decode cX7_robotOf 92 = .ok (.aload_n 3, 1) := by decide +kernel
theorem d_X7_robotOf_93 : decode cX7_robotOf 93 = .ok (.getfield 230, 3) := by decide +kernel
theorem d_X7_robotOf_96 : decode cX7_robotOf 96 = .ok (.ifCond .ne 7, 3) := by decide +kernel
theorem d_X7_robotOf_99 : decode cX7_robotOf 99 = .ok (.iconst (-1), 1) := by decide +kernel
theorem d_X7_robotOf_100 : decode cX7_robotOf 100 = .ok (.goto 7, 3) := by decide +kernel
theorem d_X7_robotOf_103 : decode cX7_robotOf 103 = .ok (.aload_n 3, 1) := by decide +kernel
theorem d_X7_robotOf_104 : decode cX7_robotOf 104 = .ok (.invokevirtual 279, 3) := by decide +kernel
theorem d_X7_robotOf_107 : decode cX7_robotOf 107 = .ok (.ireturn, 1) := by decide +kernel
theorem d_X7_robotOf_108 : decode cX7_robotOf 108 = .ok (.aload_n 0, 1) := by decide +kernel
theorem d_X7_robotOf_109 : decode cX7_robotOf 109 = .ok (.getfield 12, 3) := by decide +kernel
theorem d_X7_robotOf_112 : decode cX7_robotOf 112 = .ok (.iload_n 1, 1) := by decide +kernel
theorem d_X7_robotOf_113 : decode cX7_robotOf 113 = .ok (.invokevirtual 282, 3) := by decide +kernel
theorem d_X7_robotOf_116 : decode cX7_robotOf 116 = .ok (.ifCond .eq 7, 3) := by decide +kernel
theorem d_X7_robotOf_119 : decode cX7_robotOf 119 = .ok (.iconst 1, 1) := by decide +kernel
theorem d_X7_robotOf_120 : decode cX7_robotOf 120 = .ok (.goto 4, 3) := by decide +kernel
theorem d_X7_robotOf_123 : decode cX7_robotOf 123 = .ok (.iconst 0, 1) := by decide +kernel
theorem d_X7_robotOf_124 : decode cX7_robotOf 124 = .ok (.ireturn, 1) := by decide +kernel
theorem d_X7_robotOf_125 : decode cX7_robotOf 125 = .ok (.aload_n 3, 1) := by decide +kernel
theorem d_X7_robotOf_126 : decode cX7_robotOf 126 = .ok (.getfield 285, 3) := by decide +kernel
theorem d_X7_robotOf_129 : decode cX7_robotOf 129 = .ok (.ireturn, 1) := by decide +kernel
theorem d_X7_robotOf_130 : decode cX7_robotOf 130 = .ok (.new 81, 3) := by decide +kernel
theorem d_X7_robotOf_133 : decode cX7_robotOf 133 = .ok (.dup, 1) := by decide +kernel
theorem d_X7_robotOf_134 : decode cX7_robotOf 134 = .ok (.invokespecial 83, 3) := by decide +kernel
theorem d_X7_robotOf_137 : decode cX7_robotOf 137 = .ok (.athrow, 1) := by decide +kernel
theorem d_X7_planned_0 : decode cX7_planned 0 = .ok (.aload_n 0, 1) := by decide +kernel
theorem d_X7_planned_1 : decode cX7_planned 1 = .ok (.getfield 12, 3) := by decide +kernel
theorem d_X7_planned_4 : decode cX7_planned 4 = .ok (.iload_n 1, 1) := by decide +kernel
theorem d_X7_planned_5 : decode cX7_planned 5 = .ok (.invokevirtual 128, 3) := by decide +kernel
theorem d_X7_planned_8 : decode cX7_planned 8 = .ok (.ifCond .ne 11, 3) := by decide +kernel
theorem d_X7_planned_11 : decode cX7_planned 11 = .ok (.new 251, 3) := by decide +kernel
theorem d_X7_planned_14 : decode cX7_planned 14 = .ok (.dup, 1) := by decide +kernel
theorem d_X7_planned_15 : decode cX7_planned 15 = .ok (.invokespecial 253, 3) := by decide +kernel
theorem d_X7_planned_18 : decode cX7_planned 18 = .ok (.athrow, 1) := by decide +kernel
theorem d_X7_planned_19 : decode cX7_planned 19 = .ok (.iload_n 2, 1) := by decide +kernel
theorem d_X7_planned_20 : decode cX7_planned 20 = .ok (.ifCond .ge 11, 3) := by decide +kernel
theorem d_X7_planned_23 : decode cX7_planned 23 = .ok (.new 81, 3) := by decide +kernel
theorem d_X7_planned_26 : decode cX7_planned 26 = .ok (.dup, 1) := by decide +kernel
theorem d_X7_planned_27 : decode cX7_planned 27 = .ok (.invokespecial 83, 3) := by decide +kernel
theorem d_X7_planned_30 : decode cX7_planned 30 = .ok (.athrow, 1) := by decide +kernel
theorem d_X7_planned_31 : decode cX7_planned 31 = .ok (.aload_n 0, 1) := by decide +kernel
theorem d_X7_planned_32 : decode cX7_planned 32 = .ok (.getfield 12, 3) := by decide +kernel
theorem d_X7_planned_35 : decode cX7_planned 35 = .ok (.getfield 131, 3) := by decide +kernel
theorem d_X7_planned_38 : decode cX7_planned 38 = .ok (.iload_n 1, 1) := by decide +kernel
theorem d_X7_planned_39 : decode cX7_planned 39 = .ok (.aaload, 1) := by decide +kernel
theorem d_X7_planned_40 : decode cX7_planned 40 = .ok (.iload_n 2, 1) := by decide +kernel
theorem d_X7_planned_41 : decode cX7_planned 41 = .ok (.invokevirtual 288, 3) := by decide +kernel
theorem d_X7_planned_44 : decode cX7_planned 44 = .ok (.ireturn, 1) := by decide +kernel
theorem d_X7_reserved_0 : decode cX7_reserved 0 = .ok (.aload_n 0, 1) := by decide +kernel
theorem d_X7_reserved_1 : decode cX7_reserved 1 = .ok (.getfield 12, 3) := by decide +kernel
theorem d_X7_reserved_4 : decode cX7_reserved 4 = .ok (.iload_n 1, 1) := by decide +kernel
theorem d_X7_reserved_5 : decode cX7_reserved 5 = .ok (.invokevirtual 105, 3) := by decide +kernel
theorem d_X7_reserved_8 : decode cX7_reserved 8 = .ok (.ifCond .ne 11, 3) := by decide +kernel
theorem d_X7_reserved_11 : decode cX7_reserved 11 = .ok (.new 251, 3) := by decide +kernel
theorem d_X7_reserved_14 : decode cX7_reserved 14 = .ok (.dup, 1) := by decide +kernel
theorem d_X7_reserved_15 : decode cX7_reserved 15 = .ok (.invokespecial 253, 3) := by decide +kernel
theorem d_X7_reserved_18 : decode cX7_reserved 18 = .ok (.athrow, 1) := by decide +kernel
theorem d_X7_reserved_19 : decode cX7_reserved 19 = .ok (.iload_n 2, 1) := by decide +kernel
theorem d_X7_reserved_20 : decode cX7_reserved 20 = .ok (.ifCond .ge 11, 3) := by decide +kernel
theorem d_X7_reserved_23 : decode cX7_reserved 23 = .ok (.new 81, 3) := by decide +kernel
theorem d_X7_reserved_26 : decode cX7_reserved 26 = .ok (.dup, 1) := by decide +kernel
theorem d_X7_reserved_27 : decode cX7_reserved 27 = .ok (.invokespecial 83, 3) := by decide +kernel
theorem d_X7_reserved_30 : decode cX7_reserved 30 = .ok (.athrow, 1) := by decide +kernel
theorem d_X7_reserved_31 : decode cX7_reserved 31 = .ok (.aload_n 0, 1) := by decide +kernel
theorem d_X7_reserved_32 : decode cX7_reserved 32 = .ok (.getfield 12, 3) := by decide +kernel
theorem d_X7_reserved_35 : decode cX7_reserved 35 = .ok (.iload_n 1, 1) := by decide +kernel
theorem d_X7_reserved_36 : decode cX7_reserved 36 = .ok (.iload_n 2, 1) := by decide +kernel
theorem d_X7_reserved_37 : decode cX7_reserved 37 = .ok (.invokevirtual 254, 3) := by decide +kernel
theorem d_X7_reserved_40 : decode cX7_reserved 40 = .ok (.ireturn, 1) := by decide +kernel
theorem d_X7_arrival_0 : decode cX7_arrival 0 = .ok (.aload_n 0, 1) := by decide +kernel
theorem d_X7_arrival_1 : decode cX7_arrival 1 = .ok (.getfield 12, 3) := by decide +kernel
theorem d_X7_arrival_4 : decode cX7_arrival 4 = .ok (.iload_n 1, 1) := by decide +kernel
theorem d_X7_arrival_5 : decode cX7_arrival 5 = .ok (.invokevirtual 128, 3) := by decide +kernel
theorem d_X7_arrival_8 : decode cX7_arrival 8 = .ok (.ifCond .eq 14, 3) := by decide +kernel
theorem d_X7_arrival_11 : decode cX7_arrival 11 = .ok (.aload_n 0, 1) := by decide +kernel
theorem d_X7_arrival_12 : decode cX7_arrival 12 = .ok (.getfield 12, 3) := by decide +kernel
theorem d_X7_arrival_15 : decode cX7_arrival 15 = .ok (.iload_n 2, 1) := by decide +kernel
theorem d_X7_arrival_16 : decode cX7_arrival 16 = .ok (.invokevirtual 105, 3) := by decide +kernel
theorem d_X7_arrival_19 : decode cX7_arrival 19 = .ok (.ifCond .ne 11, 3) := by decide +kernel
theorem d_X7_arrival_22 : decode cX7_arrival 22 = .ok (.new 251, 3) := by decide +kernel
theorem d_X7_arrival_25 : decode cX7_arrival 25 = .ok (.dup, 1) := by decide +kernel
theorem d_X7_arrival_26 : decode cX7_arrival 26 = .ok (.invokespecial 253, 3) := by decide +kernel
theorem d_X7_arrival_29 : decode cX7_arrival 29 = .ok (.athrow, 1) := by decide +kernel
theorem d_X7_arrival_30 : decode cX7_arrival 30 = .ok (.aload_n 0, 1) := by decide +kernel
theorem d_X7_arrival_31 : decode cX7_arrival 31 = .ok (.getfield 12, 3) := by decide +kernel
theorem d_X7_arrival_34 : decode cX7_arrival 34 = .ok (.iload_n 2, 1) := by decide +kernel
theorem d_X7_arrival_35 : decode cX7_arrival 35 = .ok (.invokevirtual 115, 3) := by decide +kernel
theorem d_X7_arrival_38 : decode cX7_arrival 38 = .ok (.ifCond .ne 11, 3) := by decide +kernel
theorem d_X7_arrival_41 : decode cX7_arrival 41 = .ok (.new 267, 3) := by decide +kernel
theorem d_X7_arrival_44 : decode cX7_arrival 44 = .ok (.dup, 1) := by decide +kernel
theorem d_X7_arrival_45 : decode cX7_arrival 45 = .ok (.invokespecial 269, 3) := by decide +kernel
theorem d_X7_arrival_48 : decode cX7_arrival 48 = .ok (.athrow, 1) := by decide +kernel
theorem d_X7_arrival_49 : decode cX7_arrival 49 = .ok (.aload_n 0, 1) := by decide +kernel
theorem d_X7_arrival_50 : decode cX7_arrival 50 = .ok (.getfield 12, 3) := by decide +kernel
theorem d_X7_arrival_53 : decode cX7_arrival 53 = .ok (.getfield 131, 3) := by decide +kernel
theorem d_X7_arrival_56 : decode cX7_arrival 56 = .ok (.iload_n 1, 1) := by decide +kernel
theorem d_X7_arrival_57 : decode cX7_arrival 57 = .ok (.aaload, 1) := by decide +kernel
theorem d_X7_arrival_58 : decode cX7_arrival 58 = .ok (.getfield 233, 3) := by decide +kernel
theorem d_X7_arrival_61 : decode cX7_arrival 61 = .ok (.iload_n 2, 1) := by decide +kernel
theorem d_X7_arrival_62 : decode cX7_arrival 62 = .ok (.if_icmp .ne 5, 3) := by decide +kernel
theorem d_X7_arrival_65 : decode cX7_arrival 65 = .ok (.iconst 0, 1) := by decide +kernel
theorem d_X7_arrival_66 : decode cX7_arrival 66 = .ok (.ireturn, 1) := by decide +kernel
theorem d_X7_arrival_67 : decode cX7_arrival 67 = .ok (.aload_n 0, 1) := by decide +kernel
theorem d_X7_arrival_68 : decode cX7_arrival 68 = .ok (.getfield 45, 3) := by decide +kernel
theorem d_X7_arrival_71 : decode cX7_arrival 71 = .ok (.iload_n 1, 1) := by decide +kernel
theorem d_X7_arrival_72 : decode cX7_arrival 72 = .ok (.iload_n 2, 1) := by decide +kernel
theorem d_X7_arrival_73 : decode cX7_arrival 73 = .ok (.invokevirtual 214, 3) := by decide +kernel
theorem d_X7_arrival_76 : decode cX7_arrival 76 = .ok (.istore_n 3, 1) := by decide +kernel
theorem d_X7_arrival_77 : decode cX7_arrival 77 = .ok (.iload_n 3, 1) := by decide +kernel
theorem d_X7_arrival_78 : decode cX7_arrival 78 = .ok (.iconst (-1), 1) := by decide +kernel
theorem d_X7_arrival_79 : decode cX7_arrival 79 = .ok (.if_icmp .ne 11, 3) := by decide +kernel
theorem d_X7_arrival_82 : decode cX7_arrival 82 = .ok (.new 267, 3) := by decide +kernel
theorem d_X7_arrival_85 : decode cX7_arrival 85 = .ok (.dup, 1) := by decide +kernel
theorem d_X7_arrival_86 : decode cX7_arrival 86 = .ok (.invokespecial 269, 3) := by decide +kernel
theorem d_X7_arrival_89 : decode cX7_arrival 89 = .ok (.athrow, 1) := by decide +kernel
theorem d_X7_arrival_90 : decode cX7_arrival 90 = .ok (.iload_n 3, 1) := by decide +kernel
theorem d_X7_arrival_91 : decode cX7_arrival 91 = .ok (.ireturn, 1) := by decide +kernel
theorem d_X7_arrivalAgain_0 : decode cX7_arrivalAgain 0 = .ok (.aload_n 0, 1) := by decide +kernel
theorem d_X7_arrivalAgain_1 : decode cX7_arrivalAgain 1 = .ok (.getfield 12, 3) := by decide +kernel
theorem d_X7_arrivalAgain_4 : decode cX7_arrivalAgain 4 = .ok (.iload_n 1, 1) := by decide +kernel
theorem d_X7_arrivalAgain_5 : decode cX7_arrivalAgain 5 = .ok (.invokevirtual 128, 3) := by decide +kernel
theorem d_X7_arrivalAgain_8 : decode cX7_arrivalAgain 8 = .ok (.ifCond .eq 14, 3) := by decide +kernel
theorem d_X7_arrivalAgain_11 : decode cX7_arrivalAgain 11 = .ok (.aload_n 0, 1) := by decide +kernel
theorem d_X7_arrivalAgain_12 : decode cX7_arrivalAgain 12 = .ok (.getfield 12, 3) := by decide +kernel
theorem d_X7_arrivalAgain_15 : decode cX7_arrivalAgain 15 = .ok (.iload_n 2, 1) := by decide +kernel
theorem d_X7_arrivalAgain_16 : decode cX7_arrivalAgain 16 = .ok (.invokevirtual 105, 3) := by decide +kernel
theorem d_X7_arrivalAgain_19 : decode cX7_arrivalAgain 19 = .ok (.ifCond .ne 11, 3) := by decide +kernel
theorem d_X7_arrivalAgain_22 : decode cX7_arrivalAgain 22 = .ok (.new 251, 3) := by decide +kernel
theorem d_X7_arrivalAgain_25 : decode cX7_arrivalAgain 25 = .ok (.dup, 1) := by decide +kernel
theorem d_X7_arrivalAgain_26 : decode cX7_arrivalAgain 26 = .ok (.invokespecial 253, 3) := by decide +kernel
theorem d_X7_arrivalAgain_29 : decode cX7_arrivalAgain 29 = .ok (.athrow, 1) := by decide +kernel
theorem d_X7_arrivalAgain_30 : decode cX7_arrivalAgain 30 = .ok (.aload_n 0, 1) := by decide +kernel
theorem d_X7_arrivalAgain_31 : decode cX7_arrivalAgain 31 = .ok (.getfield 12, 3) := by decide +kernel
theorem d_X7_arrivalAgain_34 : decode cX7_arrivalAgain 34 = .ok (.iload_n 2, 1) := by decide +kernel
theorem d_X7_arrivalAgain_35 : decode cX7_arrivalAgain 35 = .ok (.invokevirtual 115, 3) := by decide +kernel
theorem d_X7_arrivalAgain_38 : decode cX7_arrivalAgain 38 = .ok (.ifCond .ne 11, 3) := by decide +kernel
theorem d_X7_arrivalAgain_41 : decode cX7_arrivalAgain 41 = .ok (.new 267, 3) := by decide +kernel
theorem d_X7_arrivalAgain_44 : decode cX7_arrivalAgain 44 = .ok (.dup, 1) := by decide +kernel
theorem d_X7_arrivalAgain_45 : decode cX7_arrivalAgain 45 = .ok (.invokespecial 269, 3) := by decide +kernel
theorem d_X7_arrivalAgain_48 : decode cX7_arrivalAgain 48 = .ok (.athrow, 1) := by decide +kernel
theorem d_X7_arrivalAgain_49 : decode cX7_arrivalAgain 49 = .ok (.aload_n 0, 1) := by decide +kernel
theorem d_X7_arrivalAgain_50 : decode cX7_arrivalAgain 50 = .ok (.getfield 12, 3) := by decide +kernel
theorem d_X7_arrivalAgain_53 : decode cX7_arrivalAgain 53 = .ok (.getfield 131, 3) := by decide +kernel
theorem d_X7_arrivalAgain_56 : decode cX7_arrivalAgain 56 = .ok (.iload_n 1, 1) := by decide +kernel
theorem d_X7_arrivalAgain_57 : decode cX7_arrivalAgain 57 = .ok (.aaload, 1) := by decide +kernel
theorem d_X7_arrivalAgain_58 : decode cX7_arrivalAgain 58 = .ok (.getfield 233, 3) := by decide +kernel
theorem d_X7_arrivalAgain_61 : decode cX7_arrivalAgain 61 = .ok (.iload_n 2, 1) := by decide +kernel
theorem d_X7_arrivalAgain_62 : decode cX7_arrivalAgain 62 = .ok (.if_icmp .ne 5, 3) := by decide +kernel
theorem d_X7_arrivalAgain_65 : decode cX7_arrivalAgain 65 = .ok (.iconst 0, 1) := by decide +kernel
theorem d_X7_arrivalAgain_66 : decode cX7_arrivalAgain 66 = .ok (.ireturn, 1) := by decide +kernel
theorem d_X7_arrivalAgain_67 : decode cX7_arrivalAgain 67 = .ok (.aload_n 0, 1) := by decide +kernel
theorem d_X7_arrivalAgain_68 : decode cX7_arrivalAgain 68 = .ok (.getfield 45, 3) := by decide +kernel
theorem d_X7_arrivalAgain_71 : decode cX7_arrivalAgain 71 = .ok (.iload_n 1, 1) := by decide +kernel
theorem d_X7_arrivalAgain_72 : decode cX7_arrivalAgain 72 = .ok (.iload_n 2, 1) := by decide +kernel
theorem d_X7_arrivalAgain_73 : decode cX7_arrivalAgain 73 = .ok (.invokevirtual 291, 3) := by decide +kernel
theorem d_X7_arrivalAgain_76 : decode cX7_arrivalAgain 76 = .ok (.istore_n 3, 1) := by decide +kernel
theorem d_X7_arrivalAgain_77 : decode cX7_arrivalAgain 77 = .ok (.iload_n 3, 1) := by decide +kernel
theorem d_X7_arrivalAgain_78 : decode cX7_arrivalAgain 78 = .ok (.iconst (-1), 1) := by decide +kernel
theorem d_X7_arrivalAgain_79 : decode cX7_arrivalAgain 79 = .ok (.if_icmp .ne 11, 3) := by decide +kernel
theorem d_X7_arrivalAgain_82 : decode cX7_arrivalAgain 82 = .ok (.new 267, 3) := by decide +kernel
theorem d_X7_arrivalAgain_85 : decode cX7_arrivalAgain 85 = .ok (.dup, 1) := by decide +kernel
theorem d_X7_arrivalAgain_86 : decode cX7_arrivalAgain 86 = .ok (.invokespecial 269, 3) := by decide +kernel
theorem d_X7_arrivalAgain_89 : decode cX7_arrivalAgain 89 = .ok (.athrow, 1) := by decide +kernel
theorem d_X7_arrivalAgain_90 : decode cX7_arrivalAgain 90 = .ok (.iload_n 3, 1) := by decide +kernel
theorem d_X7_arrivalAgain_91 : decode cX7_arrivalAgain 91 = .ok (.ireturn, 1) := by decide +kernel
theorem d_X7_orderOf_0 : decode cX7_orderOf 0 = .ok (.aload_n 0, 1) := by decide +kernel
theorem d_X7_orderOf_1 : decode cX7_orderOf 1 = .ok (.getfield 12, 3) := by decide +kernel
theorem d_X7_orderOf_4 : decode cX7_orderOf 4 = .ok (.iload_n 1, 1) := by decide +kernel
theorem d_X7_orderOf_5 : decode cX7_orderOf 5 = .ok (.invokevirtual 173, 3) := by decide +kernel
theorem d_X7_orderOf_8 : decode cX7_orderOf 8 = .ok (.ifCond .ne 11, 3) := by decide +kernel
theorem d_X7_orderOf_11 : decode cX7_orderOf 11 = .ok (.new 251, 3) := by decide +kernel
theorem d_X7_orderOf_14 : decode cX7_orderOf 14 = .ok (.dup, 1) := by decide +kernel
theorem d_X7_orderOf_15 : decode cX7_orderOf 15 = .ok (.invokespecial 253, 3) := by decide +kernel
theorem d_X7_orderOf_18 : decode cX7_orderOf 18 = .ok (.athrow, 1) := by decide +kernel
theorem d_X7_orderOf_19 : decode cX7_orderOf 19 = .ok (.aload_n 0, 1) := by decide +kernel
theorem d_X7_orderOf_20 : decode cX7_orderOf 20 = .ok (.getfield 12, 3) := by decide +kernel
theorem d_X7_orderOf_23 : decode cX7_orderOf 23 = .ok (.getfield 164, 3) := by decide +kernel
theorem d_X7_orderOf_26 : decode cX7_orderOf 26 = .ok (.iload_n 1, 1) := by decide +kernel
theorem d_X7_orderOf_27 : decode cX7_orderOf 27 = .ok (.aaload, 1) := by decide +kernel
theorem d_X7_orderOf_28 : decode cX7_orderOf 28 = .ok (.astore_n 3, 1) := by decide +kernel
theorem d_X7_orderOf_29 : decode cX7_orderOf 29 = .ok (.iload_n 2, 1) := by decide +kernel
theorem d_X7_orderOf_30 : decode cX7_orderOf 30 = .ok (.tableswitch 76 0 5 #[38, 43, 48, 53, 62, 71], 38) := by decide +kernel
theorem d_X7_orderOf_68 : decode cX7_orderOf 68 = .ok (.aload_n 3, 1) := by decide +kernel
theorem d_X7_orderOf_69 : decode cX7_orderOf 69 = .ok (.getfield 294, 3) := by decide +kernel
theorem d_X7_orderOf_72 : decode cX7_orderOf 72 = .ok (.ireturn, 1) := by decide +kernel
theorem d_X7_orderOf_73 : decode cX7_orderOf 73 = .ok (.aload_n 3, 1) := by decide +kernel
theorem d_X7_orderOf_74 : decode cX7_orderOf 74 = .ok (.getfield 297, 3) := by decide +kernel
theorem d_X7_orderOf_77 : decode cX7_orderOf 77 = .ok (.ireturn, 1) := by decide +kernel
theorem d_X7_orderOf_78 : decode cX7_orderOf 78 = .ok (.aload_n 3, 1) := by decide +kernel
theorem d_X7_orderOf_79 : decode cX7_orderOf 79 = .ok (.getfield 300, 3) := by decide +kernel
theorem d_X7_orderOf_82 : decode cX7_orderOf 82 = .ok (.ireturn, 1) := by decide +kernel
theorem d_X7_orderOf_83 : decode cX7_orderOf 83 = .ok (.aload_n 0, 1) := by decide +kernel
theorem d_X7_orderOf_84 : decode cX7_orderOf 84 = .ok (.getfield 12, 3) := by decide +kernel
theorem d_X7_orderOf_87 : decode cX7_orderOf 87 = .ok (.iload_n 1, 1) := by decide +kernel
theorem d_X7_orderOf_88 : decode cX7_orderOf 88 = .ok (.invokevirtual 176, 3) := by decide +kernel
theorem d_X7_orderOf_91 : decode cX7_orderOf 91 = .ok (.ireturn, 1) := by decide +kernel
theorem d_X7_orderOf_92 : decode cX7_orderOf 92 = .ok (.aload_n 0, 1) := by decide +kernel
theorem d_X7_orderOf_93 : decode cX7_orderOf 93 = .ok (.getfield 12, 3) := by decide +kernel
theorem d_X7_orderOf_96 : decode cX7_orderOf 96 = .ok (.iload_n 1, 1) := by decide +kernel
theorem d_X7_orderOf_97 : decode cX7_orderOf 97 = .ok (.invokevirtual 303, 3) := by decide +kernel
theorem d_X7_orderOf_100 : decode cX7_orderOf 100 = .ok (.ireturn, 1) := by decide +kernel
theorem d_X7_orderOf_101 : decode cX7_orderOf 101 = .ok (.aload_n 3, 1) := by decide +kernel
theorem d_X7_orderOf_102 : decode cX7_orderOf 102 = .ok (.getfield 306, 3) := by decide +kernel
theorem d_X7_orderOf_105 : decode cX7_orderOf 105 = .ok (.ireturn, 1) := by decide +kernel
theorem d_X7_orderOf_106 : decode cX7_orderOf 106 = .ok (.new 81, 3) := by decide +kernel
theorem d_X7_orderOf_109 : decode cX7_orderOf 109 = .ok (.dup, 1) := by decide +kernel
theorem d_X7_orderOf_110 : decode cX7_orderOf 110 = .ok (.invokespecial 83, 3) := by decide +kernel
theorem d_X7_orderOf_113 : decode cX7_orderOf 113 = .ok (.athrow, 1) := by decide +kernel
theorem d_X7_line_0 : decode cX7_line 0 = .ok (.aload_n 0, 1) := by decide +kernel
theorem d_X7_line_1 : decode cX7_line 1 = .ok (.getfield 12, 3) := by decide +kernel
theorem d_X7_line_4 : decode cX7_line 4 = .ok (.iload_n 1, 1) := by decide +kernel
theorem d_X7_line_5 : decode cX7_line 5 = .ok (.invokevirtual 173, 3) := by decide +kernel
theorem d_X7_line_8 : decode cX7_line 8 = .ok (.ifCond .ne 11, 3) := by decide +kernel
theorem d_X7_line_11 : decode cX7_line 11 = .ok (.new 251, 3) := by decide +kernel
theorem d_X7_line_14 : decode cX7_line 14 = .ok (.dup, 1) := by decide +kernel
theorem d_X7_line_15 : decode cX7_line 15 = .ok (.invokespecial 253, 3) := by decide +kernel
theorem d_X7_line_18 : decode cX7_line 18 = .ok (.athrow, 1) := by decide +kernel
theorem d_X7_line_19 : decode cX7_line 19 = .ok (.iload_n 2, 1) := by decide +kernel
theorem d_X7_line_20 : decode cX7_line 20 = .ok (.ifCond .lt 19, 3) := by decide +kernel
theorem d_X7_line_23 : decode cX7_line 23 = .ok (.iload_n 2, 1) := by decide +kernel
theorem d_X7_line_24 : decode cX7_line 24 = .ok (.aload_n 0, 1) := by decide +kernel
theorem d_X7_line_25 : decode cX7_line 25 = .ok (.getfield 12, 3) := by decide +kernel
theorem d_X7_line_28 : decode cX7_line 28 = .ok (.getfield 164, 3) := by decide +kernel
theorem d_X7_line_31 : decode cX7_line 31 = .ok (.iload_n 1, 1) := by decide +kernel
theorem d_X7_line_32 : decode cX7_line 32 = .ok (.aaload, 1) := by decide +kernel
theorem d_X7_line_33 : decode cX7_line 33 = .ok (.getfield 297, 3) := by decide +kernel
theorem d_X7_line_36 : decode cX7_line 36 = .ok (.if_icmp .lt 11, 3) := by decide +kernel
theorem d_X7_line_39 : decode cX7_line 39 = .ok (.new 251, 3) := by decide +kernel
theorem d_X7_line_42 : decode cX7_line 42 = .ok (.dup, 1) := by decide +kernel
theorem d_X7_line_43 : decode cX7_line 43 = .ok (.invokespecial 253, 3) := by decide +kernel
theorem d_X7_line_46 : decode cX7_line 46 = .ok (.athrow, 1) := by decide +kernel
theorem d_X7_line_47 : decode cX7_line 47 = .ok (.aload_n 0, 1) := by decide +kernel
theorem d_X7_line_48 : decode cX7_line 48 = .ok (.getfield 12, 3) := by decide +kernel
theorem d_X7_line_51 : decode cX7_line 51 = .ok (.getfield 164, 3) := by decide +kernel
theorem d_X7_line_54 : decode cX7_line 54 = .ok (.iload_n 1, 1) := by decide +kernel
theorem d_X7_line_55 : decode cX7_line 55 = .ok (.aaload, 1) := by decide +kernel
theorem d_X7_line_56 : decode cX7_line 56 = .ok (.getfield 309, 3) := by decide +kernel
theorem d_X7_line_59 : decode cX7_line 59 = .ok (.iload_n 2, 1) := by decide +kernel
theorem d_X7_line_60 : decode cX7_line 60 = .ok (.iaload, 1) := by decide +kernel
theorem d_X7_line_61 : decode cX7_line 61 = .ok (.ireturn, 1) := by decide +kernel
theorem d_X7_waiting_0 : decode cX7_waiting 0 = .ok (.iload_n 1, 1) := by decide +kernel
theorem d_X7_waiting_1 : decode cX7_waiting 1 = .ok (.iconst (-1), 1) := by decide +kernel
theorem d_X7_waiting_2 : decode cX7_waiting 2 = .ok (.if_icmp .ne 12, 3) := by decide +kernel
theorem d_X7_waiting_5 : decode cX7_waiting 5 = .ok (.aload_n 0, 1) := by decide +kernel
theorem d_X7_waiting_6 : decode cX7_waiting 6 = .ok (.getfield 12, 3) := by decide +kernel
theorem d_X7_waiting_9 : decode cX7_waiting 9 = .ok (.iconst 0, 1) := by decide +kernel
theorem d_X7_waiting_10 : decode cX7_waiting 10 = .ok (.invokevirtual 312, 3) := by decide +kernel
theorem d_X7_waiting_13 : decode cX7_waiting 13 = .ok (.ireturn, 1) := by decide +kernel
theorem d_X7_waiting_14 : decode cX7_waiting 14 = .ok (.aload_n 0, 1) := by decide +kernel
theorem d_X7_waiting_15 : decode cX7_waiting 15 = .ok (.getfield 12, 3) := by decide +kernel
theorem d_X7_waiting_18 : decode cX7_waiting 18 = .ok (.iload_n 1, 1) := by decide +kernel
theorem d_X7_waiting_19 : decode cX7_waiting 19 = .ok (.invokevirtual 315, 3) := by decide +kernel
theorem d_X7_waiting_22 : decode cX7_waiting 22 = .ok (.istore_n 2, 1) := by decide +kernel
theorem d_X7_waiting_23 : decode cX7_waiting 23 = .ok (.iload_n 2, 1) := by decide +kernel
theorem d_X7_waiting_24 : decode cX7_waiting 24 = .ok (.iconst (-1), 1) := by decide +kernel
theorem d_X7_waiting_25 : decode cX7_waiting 25 = .ok (.if_icmp .ne 11, 3) := by decide +kernel
theorem d_X7_waiting_28 : decode cX7_waiting 28 = .ok (.new 267, 3) := by decide +kernel
theorem d_X7_waiting_31 : decode cX7_waiting 31 = .ok (.dup, 1) := by decide +kernel
theorem d_X7_waiting_32 : decode cX7_waiting 32 = .ok (.invokespecial 269, 3) := by decide +kernel
theorem d_X7_waiting_35 : decode cX7_waiting 35 = .ok (.athrow, 1) := by decide +kernel
theorem d_X7_waiting_36 : decode cX7_waiting 36 = .ok (.iload_n 2, 1) := by decide +kernel
theorem d_X7_waiting_37 : decode cX7_waiting 37 = .ok (.ireturn, 1) := by decide +kernel
theorem d_X7_suited_0 : decode cX7_suited 0 = .ok (.aload_n 0, 1) := by decide +kernel
theorem d_X7_suited_1 : decode cX7_suited 1 = .ok (.getfield 12, 3) := by decide +kernel
theorem d_X7_suited_4 : decode cX7_suited 4 = .ok (.iload_n 1, 1) := by decide +kernel
theorem d_X7_suited_5 : decode cX7_suited 5 = .ok (.invokevirtual 173, 3) := by decide +kernel
theorem d_X7_suited_8 : decode cX7_suited 8 = .ok (.ifCond .ne 11, 3) := by decide +kernel
theorem d_X7_suited_11 : decode cX7_suited 11 = .ok (.new 251, 3) := by decide +kernel
theorem d_X7_suited_14 : decode cX7_suited 14 = .ok (.dup, 1) := by decide +kernel
theorem d_X7_suited_15 : decode cX7_suited 15 = .ok (.invokespecial 253, 3) := by decide +kernel
theorem d_X7_suited_18 : decode cX7_suited 18 = .ok (.athrow, 1) := by decide +kernel
theorem d_X7_suited_19 : decode cX7_suited 19 = .ok (.aload_n 0, 1) := by decide +kernel
theorem d_X7_suited_20 : decode cX7_suited 20 = .ok (.getfield 38, 3) := by decide +kernel
theorem d_X7_suited_23 : decode cX7_suited 23 = .ok (.aload_n 0, 1) := by decide +kernel
theorem d_X7_suited_24 : decode cX7_suited 24 = .ok (.getfield 12, 3) := by decide +kernel
theorem d_X7_suited_27 : decode cX7_suited 27 = .ok (.getfield 164, 3) := by decide +kernel
theorem d_X7_suited_30 : decode cX7_suited 30 = .ok (.iload_n 1, 1) := by decide +kernel
theorem d_X7_suited_31 : decode cX7_suited 31 = .ok (.aaload, 1) := by decide +kernel
theorem d_X7_suited_32 : decode cX7_suited 32 = .ok (.getfield 309, 3) := by decide +kernel
theorem d_X7_suited_35 : decode cX7_suited 35 = .ok (.iconst 0, 1) := by decide +kernel
theorem d_X7_suited_36 : decode cX7_suited 36 = .ok (.iaload, 1) := by decide +kernel
theorem d_X7_suited_37 : decode cX7_suited 37 = .ok (.invokevirtual 318, 3) := by decide +kernel
theorem d_X7_suited_40 : decode cX7_suited 40 = .ok (.istore_n 2, 1) := by decide +kernel
theorem d_X7_suited_41 : decode cX7_suited 41 = .ok (.iload_n 2, 1) := by decide +kernel
theorem d_X7_suited_42 : decode cX7_suited 42 = .ok (.iconst (-1), 1) := by decide +kernel
theorem d_X7_suited_43 : decode cX7_suited 43 = .ok (.if_icmp .ne 11, 3) := by decide +kernel
theorem d_X7_suited_46 : decode cX7_suited 46 = .ok (.new 267, 3) := by decide +kernel
theorem d_X7_suited_49 : decode cX7_suited 49 = .ok (.dup, 1) := by decide +kernel
theorem d_X7_suited_50 : decode cX7_suited 50 = .ok (.invokespecial 269, 3) := by decide +kernel
theorem d_X7_suited_53 : decode cX7_suited 53 = .ok (.athrow, 1) := by decide +kernel
theorem d_X7_suited_54 : decode cX7_suited 54 = .ok (.iload_n 2, 1) := by decide +kernel
theorem d_X7_suited_55 : decode cX7_suited 55 = .ok (.ireturn, 1) := by decide +kernel
theorem d_X7_loaded_0 : decode cX7_loaded 0 = .ok (.aload_n 0, 1) := by decide +kernel
theorem d_X7_loaded_1 : decode cX7_loaded 1 = .ok (.getfield 12, 3) := by decide +kernel
theorem d_X7_loaded_4 : decode cX7_loaded 4 = .ok (.getfield 112, 3) := by decide +kernel
theorem d_X7_loaded_7 : decode cX7_loaded 7 = .ok (.ifCond .gt 11, 3) := by decide +kernel
theorem d_X7_loaded_10 : decode cX7_loaded 10 = .ok (.new 325, 3) := by decide +kernel
theorem d_X7_loaded_13 : decode cX7_loaded 13 = .ok (.dup, 1) := by decide +kernel
theorem d_X7_loaded_14 : decode cX7_loaded 14 = .ok (.invokespecial 327, 3) := by decide +kernel
theorem d_X7_loaded_17 : decode cX7_loaded 17 = .ok (.athrow, 1) := by decide +kernel
theorem d_X7_loaded_18 : decode cX7_loaded 18 = .ok (.aload_n 0, 1) := by decide +kernel
theorem d_X7_loaded_19 : decode cX7_loaded 19 = .ok (.getfield 12, 3) := by decide +kernel
theorem d_X7_loaded_22 : decode cX7_loaded 22 = .ok (.invokevirtual 328, 3) := by decide +kernel
theorem d_X7_loaded_25 : decode cX7_loaded 25 = .ok (.i2f, 1) := by decide +kernel
theorem d_X7_loaded_26 : decode cX7_loaded 26 = .ok (.aload_n 0, 1) := by decide +kernel
theorem d_X7_loaded_27 : decode cX7_loaded 27 = .ok (.getfield 12, 3) := by decide +kernel
theorem d_X7_loaded_30 : decode cX7_loaded 30 = .ok (.getfield 112, 3) := by decide +kernel
theorem d_X7_loaded_33 : decode cX7_loaded 33 = .ok (.i2f, 1) := by decide +kernel
theorem d_X7_loaded_34 : decode cX7_loaded 34 = .ok (.fdiv, 1) := by decide +kernel
theorem d_X7_loaded_35 : decode cX7_loaded 35 = .ok (.freturn, 1) := by decide +kernel
theorem d_X7_lateness_0 : decode cX7_lateness 0 = .ok (.aload_n 0, 1) := by decide +kernel
theorem d_X7_lateness_1 : decode cX7_lateness 1 = .ok (.getfield 12, 3) := by decide +kernel
theorem d_X7_lateness_4 : decode cX7_lateness 4 = .ok (.iconst 2, 1) := by decide +kernel
theorem d_X7_lateness_5 : decode cX7_lateness 5 = .ok (.invokevirtual 312, 3) := by decide +kernel
theorem d_X7_lateness_8 : decode cX7_lateness 8 = .ok (.istore_n 1, 1) := by decide +kernel
theorem d_X7_lateness_9 : decode cX7_lateness 9 = .ok (.iload_n 1, 1) := by decide +kernel
theorem d_X7_lateness_10 : decode cX7_lateness 10 = .ok (.ifCond .gt 11, 3) := by decide +kernel
theorem d_X7_lateness_13 : decode cX7_lateness 13 = .ok (.new 325, 3) := by decide +kernel
theorem d_X7_lateness_16 : decode cX7_lateness 16 = .ok (.dup, 1) := by decide +kernel
theorem d_X7_lateness_17 : decode cX7_lateness 17 = .ok (.invokespecial 327, 3) := by decide +kernel
theorem d_X7_lateness_20 : decode cX7_lateness 20 = .ok (.athrow, 1) := by decide +kernel
theorem d_X7_lateness_21 : decode cX7_lateness 21 = .ok (.aload_n 0, 1) := by decide +kernel
theorem d_X7_lateness_22 : decode cX7_lateness 22 = .ok (.getfield 12, 3) := by decide +kernel
theorem d_X7_lateness_25 : decode cX7_lateness 25 = .ok (.invokevirtual 331, 3) := by decide +kernel
theorem d_X7_lateness_28 : decode cX7_lateness 28 = .ok (.i2d, 1) := by decide +kernel
theorem d_X7_lateness_29 : decode cX7_lateness 29 = .ok (.iload_n 1, 1) := by decide +kernel
theorem d_X7_lateness_30 : decode cX7_lateness 30 = .ok (.i2d, 1) := by decide +kernel
theorem d_X7_lateness_31 : decode cX7_lateness 31 = .ok (.ddiv, 1) := by decide +kernel
theorem d_X7_lateness_32 : decode cX7_lateness 32 = .ok (.dreturn, 1) := by decide +kernel
theorem d_X7_reason_0 : decode cX7_reason 0 = .ok (.aload_n 0, 1) := by decide +kernel
theorem d_X7_reason_1 : decode cX7_reason 1 = .ok (.getfield 57, 3) := by decide +kernel
theorem d_X7_reason_4 : decode cX7_reason 4 = .ok (.iconst (-1), 1) := by decide +kernel
theorem d_X7_reason_5 : decode cX7_reason 5 = .ok (.if_icmp .ne 11, 3) := by decide +kernel
theorem d_X7_reason_8 : decode cX7_reason 8 = .ok (.new 267, 3) := by decide +kernel
theorem d_X7_reason_11 : decode cX7_reason 11 = .ok (.dup, 1) := by decide +kernel
theorem d_X7_reason_12 : decode cX7_reason 12 = .ok (.invokespecial 269, 3) := by decide +kernel
theorem d_X7_reason_15 : decode cX7_reason 15 = .ok (.athrow, 1) := by decide +kernel
theorem d_X7_reason_16 : decode cX7_reason 16 = .ok (.iload_n 1, 1) := by decide +kernel
theorem d_X7_reason_17 : decode cX7_reason 17 = .ok (.ifCond .eq 10, 3) := by decide +kernel
theorem d_X7_reason_20 : decode cX7_reason 20 = .ok (.aload_n 0, 1) := by decide +kernel
theorem d_X7_reason_21 : decode cX7_reason 21 = .ok (.getfield 60, 3) := by decide +kernel
theorem d_X7_reason_24 : decode cX7_reason 24 = .ok (.goto 7, 3) := by decide +kernel
theorem d_X7_reason_27 : decode cX7_reason 27 = .ok (.aload_n 0, 1) := by decide +kernel
theorem d_X7_reason_28 : decode cX7_reason 28 = .ok (.getfield 57, 3) := by decide +kernel
theorem d_X7_reason_31 : decode cX7_reason 31 = .ok (.ireturn, 1) := by decide +kernel
theorem d_X7_account_0 : decode cX7_account 0 = .ok (.iload_n 1, 1) := by decide +kernel
theorem d_X7_account_1 : decode cX7_account 1 = .ok (.tableswitch 228 0 16 #[83, 91, 99, 107, 115, 124, 133, 142, 150, 158, 166, 174, 182, 190, 198, 208, 218], 83) := by decide +kernel
theorem d_X7_account_84 : decode cX7_account 84 = .ok (.aload_n 0, 1) := by decide +kernel
theorem d_X7_account_85 : decode cX7_account 85 = .ok (.getfield 12, 3) := by decide +kernel
theorem d_X7_account_88 : decode cX7_account 88 = .ok (.getfield 334, 3) := by decide +kernel
theorem d_X7_account_91 : decode cX7_account 91 = .ok (.ireturn, 1) := by decide +kernel
theorem d_X7_account_92 : decode cX7_account 92 = .ok (.aload_n 0, 1) := by decide +kernel
theorem d_X7_account_93 : decode cX7_account 93 = .ok (.getfield 12, 3) := by decide +kernel
theorem d_X7_account_96 : decode cX7_account 96 = .ok (.getfield 337, 3) := by decide +kernel
theorem d_X7_account_99 : decode cX7_account 99 = .ok (.ireturn, 1) := by decide +kernel
theorem d_X7_account_100 : decode cX7_account 100 = .ok (.aload_n 0, 1) := by decide +kernel
theorem d_X7_account_101 : decode cX7_account 101 = .ok (.getfield 12, 3) := by decide +kernel
theorem d_X7_account_104 : decode cX7_account 104 = .ok (.getfield 112, 3) := by decide +kernel
theorem d_X7_account_107 : decode cX7_account 107 = .ok (.ireturn, 1) := by decide +kernel
theorem d_X7_account_108 : decode cX7_account 108 = .ok (.aload_n 0, 1) := by decide +kernel
theorem d_X7_account_109 : decode cX7_account 109 = .ok (.getfield 12, 3) := by decide +kernel
theorem d_X7_account_112 : decode cX7_account 112 = .ok (.getfield 151, 3) := by decide +kernel
theorem d_X7_account_115 : decode cX7_account 115 = .ok (.ireturn, 1) := by decide +kernel
theorem d_X7_account_116 : decode cX7_account 116 = .ok (.aload_n 0, 1) := by decide +kernel
theorem d_X7_account_117 : decode cX7_account 117 = .ok (.getfield 12, 3) := by decide +kernel
theorem d_X7_account_120 : decode cX7_account 120 = .ok (.iconst 0, 1) := by decide +kernel
theorem d_X7_account_121 : decode cX7_account 121 = .ok (.invokevirtual 312, 3) := by decide +kernel
theorem d_X7_account_124 : decode cX7_account 124 = .ok (.ireturn, 1) := by decide +kernel
theorem d_X7_account_125 : decode cX7_account 125 = .ok (.aload_n 0, 1) := by decide +kernel
theorem d_X7_account_126 : decode cX7_account 126 = .ok (.getfield 12, 3) := by decide +kernel
theorem d_X7_account_129 : decode cX7_account 129 = .ok (.iconst 1, 1) := by decide +kernel
theorem d_X7_account_130 : decode cX7_account 130 = .ok (.invokevirtual 312, 3) := by decide +kernel
theorem d_X7_account_133 : decode cX7_account 133 = .ok (.ireturn, 1) := by decide +kernel
theorem d_X7_account_134 : decode cX7_account 134 = .ok (.aload_n 0, 1) := by decide +kernel
theorem d_X7_account_135 : decode cX7_account 135 = .ok (.getfield 12, 3) := by decide +kernel
theorem d_X7_account_138 : decode cX7_account 138 = .ok (.iconst 2, 1) := by decide +kernel
theorem d_X7_account_139 : decode cX7_account 139 = .ok (.invokevirtual 312, 3) := by decide +kernel
theorem d_X7_account_142 : decode cX7_account 142 = .ok (.ireturn, 1) := by decide +kernel
theorem d_X7_account_143 : decode cX7_account 143 = .ok (.aload_n 0, 1) := by decide +kernel
theorem d_X7_account_144 : decode cX7_account 144 = .ok (.getfield 12, 3) := by decide +kernel
theorem d_X7_account_147 : decode cX7_account 147 = .ok (.invokevirtual 193, 3) := by decide +kernel
theorem d_X7_account_150 : decode cX7_account 150 = .ok (.ireturn, 1) := by decide +kernel
theorem d_X7_account_151 : decode cX7_account 151 = .ok (.aload_n 0, 1) := by decide +kernel
theorem d_X7_account_152 : decode cX7_account 152 = .ok (.getfield 12, 3) := by decide +kernel
theorem d_X7_account_155 : decode cX7_account 155 = .ok (.getfield 340, 3) := by decide +kernel
theorem d_X7_account_158 : decode cX7_account 158 = .ok (.ireturn, 1) := by decide +kernel
theorem d_X7_account_159 : decode cX7_account 159 = .ok (.aload_n 0, 1) := by decide +kernel
theorem d_X7_account_160 : decode cX7_account 160 = .ok (.getfield 12, 3) := by decide +kernel
theorem d_X7_account_163 : decode cX7_account 163 = .ok (.invokevirtual 343, 3) := by decide +kernel
theorem d_X7_account_166 : decode cX7_account 166 = .ok (.ireturn, 1) := by decide +kernel
theorem d_X7_account_167 : decode cX7_account 167 = .ok (.aload_n 0, 1) := by decide +kernel
theorem d_X7_account_168 : decode cX7_account 168 = .ok (.getfield 12, 3) := by decide +kernel
theorem d_X7_account_171 : decode cX7_account 171 = .ok (.invokevirtual 346, 3) := by decide +kernel
theorem d_X7_account_174 : decode cX7_account 174 = .ok (.ireturn, 1) := by decide +kernel
theorem d_X7_account_175 : decode cX7_account 175 = .ok (.aload_n 0, 1) := by decide +kernel
theorem d_X7_account_176 : decode cX7_account 176 = .ok (.getfield 12, 3) := by decide +kernel
theorem d_X7_account_179 : decode cX7_account 179 = .ok (.invokevirtual 349, 3) := by decide +kernel
theorem d_X7_account_182 : decode cX7_account 182 = .ok (.ireturn, 1) := by decide +kernel
theorem d_X7_account_183 : decode cX7_account 183 = .ok (.aload_n 0, 1) := by decide +kernel
theorem d_X7_account_184 : decode cX7_account 184 = .ok (.getfield 22, 3) := by decide +kernel
theorem d_X7_account_187 : decode cX7_account 187 = .ok (.getfield 352, 3) := by decide +kernel
theorem d_X7_account_190 : decode cX7_account 190 = .ok (.ireturn, 1) := by decide +kernel
theorem d_X7_account_191 : decode cX7_account 191 = .ok (.aload_n 0, 1) := by decide +kernel
theorem d_X7_account_192 : decode cX7_account 192 = .ok (.getfield 29, 3) := by decide +kernel
theorem d_X7_account_195 : decode cX7_account 195 = .ok (.getfield 74, 3) := by decide +kernel
theorem d_X7_account_198 : decode cX7_account 198 = .ok (.ireturn, 1) := by decide +kernel
theorem d_X7_account_199 : decode cX7_account 199 = .ok (.aload_n 0, 1) := by decide +kernel
theorem d_X7_account_200 : decode cX7_account 200 = .ok (.getfield 12, 3) := by decide +kernel
theorem d_X7_account_203 : decode cX7_account 203 = .ok (.getfield 202, 3) := by decide +kernel
theorem d_X7_account_206 : decode cX7_account 206 = .ok (.iconst 0, 1) := by decide +kernel
theorem d_X7_account_207 : decode cX7_account 207 = .ok (.iaload, 1) := by decide +kernel
theorem d_X7_account_208 : decode cX7_account 208 = .ok (.ireturn, 1) := by decide +kernel
theorem d_X7_account_209 : decode cX7_account 209 = .ok (.aload_n 0, 1) := by decide +kernel
theorem d_X7_account_210 : decode cX7_account 210 = .ok (.getfield 12, 3) := by decide +kernel
theorem d_X7_account_213 : decode cX7_account 213 = .ok (.getfield 202, 3) := by decide +kernel
theorem d_X7_account_216 : decode cX7_account 216 = .ok (.iconst 1, 1) := by decide +kernel
theorem d_X7_account_217 : decode cX7_account 217 = .ok (.iaload, 1) := by decide +kernel
theorem d_X7_account_218 : decode cX7_account 218 = .ok (.ireturn, 1) := by decide +kernel
theorem d_X7_account_219 : decode cX7_account 219 = .ok (.aload_n 0, 1) := by decide +kernel
theorem d_X7_account_220 : decode cX7_account 220 = .ok (.getfield 12, 3) := by decide +kernel
theorem d_X7_account_223 : decode cX7_account 223 = .ok (.getfield 202, 3) := by decide +kernel
theorem d_X7_account_226 : decode cX7_account 226 = .ok (.iconst 2, 1) := by decide +kernel
theorem d_X7_account_227 : decode cX7_account 227 = .ok (.iaload, 1) := by decide +kernel
theorem d_X7_account_228 : decode cX7_account 228 = .ok (.ireturn, 1) := by decide +kernel
theorem d_X7_account_229 : decode cX7_account 229 = .ok (.new 81, 3) := by decide +kernel
theorem d_X7_account_232 : decode cX7_account 232 = .ok (.dup, 1) := by decide +kernel
theorem d_X7_account_233 : decode cX7_account 233 = .ok (.invokespecial 83, 3) := by decide +kernel
theorem d_X7_account_236 : decode cX7_account 236 = .ok (.athrow, 1) := by decide +kernel
theorem d_X7_undo_0 : decode cX7_undo 0 = .ok (.aload_n 0, 1) := by decide +kernel
theorem d_X7_undo_1 : decode cX7_undo 1 = .ok (.getfield 22, 3) := by decide +kernel
theorem d_X7_undo_4 : decode cX7_undo 4 = .ok (.getfield 352, 3) := by decide +kernel
theorem d_X7_undo_7 : decode cX7_undo 7 = .ok (.ifCond .gt 11, 3) := by decide +kernel
theorem d_X7_undo_10 : decode cX7_undo 10 = .ok (.new 67, 3) := by decide +kernel
theorem d_X7_undo_13 : decode cX7_undo 13 = .ok (.dup, 1) := by decide +kernel
theorem d_X7_undo_14 : decode cX7_undo 14 = .ok (.invokespecial 69, 3) := by decide +kernel
theorem d_X7_undo_17 : decode cX7_undo 17 = .ok (.athrow, 1) := by decide +kernel
theorem d_X7_undo_18 : decode cX7_undo 18 = .ok (.aload_n 0, 1) := by decide +kernel
theorem d_X7_undo_19 : decode cX7_undo 19 = .ok (.getfield 22, 3) := by decide +kernel
theorem d_X7_undo_22 : decode cX7_undo 22 = .ok (.aload_n 0, 1) := by decide +kernel
theorem d_X7_undo_23 : decode cX7_undo 23 = .ok (.getfield 12, 3) := by decide +kernel
theorem d_X7_undo_26 : decode cX7_undo 26 = .ok (.invokevirtual 355, 3) := by decide +kernel
theorem d_X7_undo_29 : decode cX7_undo 29 = .ok (.aload_n 0, 1) := by decide +kernel
theorem d_X7_undo_30 : decode cX7_undo 30 = .ok (.getfield 22, 3) := by decide +kernel
theorem d_X7_undo_33 : decode cX7_undo 33 = .ok (.getfield 352, 3) := by decide +kernel
theorem d_X7_undo_36 : decode cX7_undo 36 = .ok (.ireturn, 1) := by decide +kernel
theorem d_X7_refusesRobotsCell_0 : decode cX7_refusesRobotsCell 0 = .ok (.aload_n 0, 1) := by decide +kernel
theorem d_X7_refusesRobotsCell_1 : decode cX7_refusesRobotsCell 1 = .ok (.getfield 12, 3) := by decide +kernel
theorem d_X7_refusesRobotsCell_4 : decode cX7_refusesRobotsCell 4 = .ok (.iload_n 1, 1) := by decide +kernel
theorem d_X7_refusesRobotsCell_5 : decode cX7_refusesRobotsCell 5 = .ok (.iload_n 2, 1) := by decide +kernel
theorem d_X7_refusesRobotsCell_6 : decode cX7_refusesRobotsCell 6 = .ok (.invokevirtual 361, 3) := by decide +kernel
theorem d_X7_refusesRobotsCell_9 : decode cX7_refusesRobotsCell 9 = .ok (.istore_n 3, 1) := by decide +kernel
theorem d_X7_refusesRobotsCell_10 : decode cX7_refusesRobotsCell 10 = .ok (.iload_n 3, 1) := by decide +kernel
theorem d_X7_refusesRobotsCell_11 : decode cX7_refusesRobotsCell 11 = .ok (.iconst (-1), 1) := by decide +kernel
theorem d_X7_refusesRobotsCell_12 : decode cX7_refusesRobotsCell 12 = .ok (.if_icmp .eq 16, 3) := by decide +kernel
theorem d_X7_refusesRobotsCell_15 : decode cX7_refusesRobotsCell 15 = .ok (.aload_n 0, 1) := by decide +kernel
theorem d_X7_refusesRobotsCell_16 : decode cX7_refusesRobotsCell 16 = .ok (.iconst 5, 1) := by decide +kernel
theorem d_X7_refusesRobotsCell_17 : decode cX7_refusesRobotsCell 17 = .ok (.iload_n 3, 1) := by decide +kernel
theorem d_X7_refusesRobotsCell_18 : decode cX7_refusesRobotsCell 18 = .ok (.invokevirtual 109, 3) := by decide +kernel
theorem d_X7_refusesRobotsCell_21 : decode cX7_refusesRobotsCell 21 = .ok (.ifCond .eq 7, 3) := by decide +kernel
theorem d_X7_refusesRobotsCell_24 : decode cX7_refusesRobotsCell 24 = .ok (.iconst 1, 1) := by decide +kernel
theorem d_X7_refusesRobotsCell_25 : decode cX7_refusesRobotsCell 25 = .ok (.goto 4, 3) := by decide +kernel
theorem d_X7_refusesRobotsCell_28 : decode cX7_refusesRobotsCell 28 = .ok (.iconst 0, 1) := by decide +kernel
theorem d_X7_refusesRobotsCell_29 : decode cX7_refusesRobotsCell 29 = .ok (.ireturn, 1) := by decide +kernel
theorem d_X7_refuse_0 : decode cX7_refuse 0 = .ok (.aload_n 0, 1) := by decide +kernel
theorem d_X7_refuse_1 : decode cX7_refuse 1 = .ok (.iload_n 1, 1) := by decide +kernel
theorem d_X7_refuse_2 : decode cX7_refuse 2 = .ok (.putfield 57, 3) := by decide +kernel
theorem d_X7_refuse_5 : decode cX7_refuse 5 = .ok (.aload_n 0, 1) := by decide +kernel
theorem d_X7_refuse_6 : decode cX7_refuse 6 = .ok (.iload_n 2, 1) := by decide +kernel
theorem d_X7_refuse_7 : decode cX7_refuse 7 = .ok (.putfield 60, 3) := by decide +kernel
theorem d_X7_refuse_10 : decode cX7_refuse 10 = .ok (.iconst 1, 1) := by decide +kernel
theorem d_X7_refuse_11 : decode cX7_refuse 11 = .ok (.ireturn, 1) := by decide +kernel
theorem d_X7_signOf_0 : decode cX7_signOf 0 = .ok (.iload_n 0, 1) := by decide +kernel
theorem d_X7_signOf_1 : decode cX7_signOf 1 = .ok (.ifCond .lt 19, 3) := by decide +kernel
theorem d_X7_signOf_4 : decode cX7_signOf 4 = .ok (.iload_n 0, 1) := by decide +kernel
theorem d_X7_signOf_5 : decode cX7_signOf 5 = .ok (.getstatic 364, 3) := by decide +kernel
theorem d_X7_signOf_8 : decode cX7_signOf 8 = .ok (.arraylength, 1) := by decide +kernel
theorem d_X7_signOf_9 : decode cX7_signOf 9 = .ok (.if_icmp .ge 11, 3) := by decide +kernel
theorem d_X7_signOf_12 : decode cX7_signOf 12 = .ok (.getstatic 364, 3) := by decide +kernel
theorem d_X7_signOf_15 : decode cX7_signOf 15 = .ok (.iload_n 0, 1) := by decide +kernel
theorem d_X7_signOf_16 : decode cX7_signOf 16 = .ok (.caload, 1) := by decide +kernel
theorem d_X7_signOf_17 : decode cX7_signOf 17 = .ok (.goto 8, 3) := by decide +kernel
theorem d_X7_signOf_20 : decode cX7_signOf 20 = .ok (.getstatic 364, 3) := by decide +kernel
theorem d_X7_signOf_23 : decode cX7_signOf 23 = .ok (.iconst 0, 1) := by decide +kernel
theorem d_X7_signOf_24 : decode cX7_signOf 24 = .ok (.caload, 1) := by decide +kernel
theorem d_X7_signOf_25 : decode cX7_signOf 25 = .ok (.ireturn, 1) := by decide +kernel
