/-! decode rows (printed by program) -/
theorem d_L_cell_0 : decode cL_cell 0 = .ok (.iload_n 1, 1) := by decide +kernel
theorem d_L_cell_1 : decode cL_cell 1 = .ok (.aload_n 0, 1) := by decide +kernel
theorem d_L_cell_2 : decode cL_cell 2 = .ok (.arraylength, 1) := by decide +kernel
theorem d_L_cell_3 : decode cL_cell 3 = .ok (.if_icmp .ge 9, 3) := by decide +kernel
theorem d_L_cell_6 : decode cL_cell 6 = .ok (.aload_n 0, 1) := by decide +kernel
theorem d_L_cell_7 : decode cL_cell 7 = .ok (.iload_n 1, 1) := by decide +kernel
theorem d_L_cell_8 : decode cL_cell 8 = .ok (.iaload, 1) := by decide +kernel
theorem d_L_cell_9 : decode cL_cell 9 = .ok (.goto 7, 3) := by decide +kernel
theorem d_L_cell_12 : decode cL_cell 12 = .ok (.ldc 7, 2) := by decide +kernel
theorem d_L_cell_14 : decode cL_cell 14 = .ok (.iload_n 1, 1) := by decide +kernel
theorem d_L_cell_15 : decode cL_cell 15 = .ok (.imul, 1) := by decide +kernel
theorem d_L_cell_16 : decode cL_cell 16 = .ok (.ireturn, 1) := by decide +kernel
theorem d_L_append_0 : decode cL_append 0 = .ok (.aload_n 0, 1) := by decide +kernel
theorem d_L_append_1 : decode cL_append 1 = .ok (.iload_n 1, 1) := by decide +kernel
theorem d_L_append_2 : decode cL_append 2 = .ok (.invokevirtual 8, 3) := by decide +kernel
theorem d_L_append_5 : decode cL_append 5 = .ok (.ireturn, 1) := by decide +kernel
theorem d_L_append_6 : decode cL_append 6 = .ok (.astore_n 2, 1) := by decide +kernel
theorem d_L_append_7 : decode cL_append 7 = .ok (.iconst (-1), 1) := by decide +kernel
theorem d_L_append_8 : decode cL_append 8 = .ok (.ireturn, 1) := by decide +kernel
theorem d_L_layout_0 : decode cL_layout 0 = .ok (.aload_n 0, 1) := by decide +kernel
theorem d_L_layout_1 : decode cL_layout 1 = .ok (.invokevirtual 16, 3) := by decide +kernel
theorem d_L_layout_4 : decode cL_layout 4 = .ok (.ireturn, 1) := by decide +kernel
theorem d_L_layout_5 : decode cL_layout 5 = .ok (.astore_n 1, 1) := by decide +kernel
theorem d_L_layout_6 : decode cL_layout 6 = .ok (.iconst (-1), 1) := by decide +kernel
theorem d_L_layout_7 : decode cL_layout 7 = .ok (.ireturn, 1) := by decide +kernel
theorem d_L_layout__0 : decode cL_layout_ 0 = .ok (.iconst 0, 1) := by decide +kernel
theorem d_L_layout__1 : decode cL_layout_ 1 = .ok (.istore_n 2, 1) := by decide +kernel
theorem d_L_layout__2 : decode cL_layout_ 2 = .ok (.iload_n 2, 1) := by decide +kernel
theorem d_L_layout__3 : decode cL_layout_ 3 = .ok (.aload_n 1, 1) := by decide +kernel
theorem d_L_layout__4 : decode cL_layout_ 4 = .ok (.invokevirtual 22, 3) := by decide +kernel
theorem d_L_layout__7 : decode cL_layout_ 7 = .ok (.if_icmp .ge 27, 3) := by decide +kernel
theorem d_L_layout__10 : decode cL_layout_ 10 = .ok (.aload_n 0, 1) := by decide +kernel
theorem d_L_layout__11 : decode cL_layout_ 11 = .ok (.aload_n 1, 1) := by decide +kernel
theorem d_L_layout__12 : decode cL_layout_ 12 = .ok (.iload_n 2, 1) := by decide +kernel
theorem d_L_layout__13 : decode cL_layout_ 13 = .ok (.invokevirtual 27, 3) := by decide +kernel
theorem d_L_layout__16 : decode cL_layout_ 16 = .ok (.invokestatic 31, 3) := by decide +kernel
theorem d_L_layout__19 : decode cL_layout_ 19 = .ok (.iload_n 2, 1) := by decide +kernel
theorem d_L_layout__20 : decode cL_layout_ 20 = .ok (.iconst 1, 1) := by decide +kernel
theorem d_L_layout__21 : decode cL_layout_ 21 = .ok (.iadd, 1) := by decide +kernel
theorem d_L_layout__22 : decode cL_layout_ 22 = .ok (.if_icmp .eq 6, 3) := by decide +kernel
theorem d_L_layout__25 : decode cL_layout_ 25 = .ok (.bipush (-9), 2) := by decide +kernel
theorem d_L_layout__27 : decode cL_layout_ 27 = .ok (.ireturn, 1) := by decide +kernel
theorem d_L_layout__28 : decode cL_layout_ 28 = .ok (.iinc 2 1, 3) := by decide +kernel
theorem d_L_layout__31 : decode cL_layout_ 31 = .ok (.goto (-29), 3) := by decide +kernel
theorem d_L_layout__34 : decode cL_layout_ 34 = .ok (.aload_n 0, 1) := by decide +kernel
theorem d_L_layout__35 : decode cL_layout_ 35 = .ok (.invokestatic 36, 3) := by decide +kernel
theorem d_L_layout__38 : decode cL_layout_ 38 = .ok (.ireturn, 1) := by decide +kernel
theorem d_L_add_0 : decode cL_add 0 = .ok (.aload_n 0, 1) := by decide +kernel
theorem d_L_add_1 : decode cL_add 1 = .ok (.iload_n 1, 1) := by decide +kernel
theorem d_L_add_2 : decode cL_add 2 = .ok (.iload_n 2, 1) := by decide +kernel
theorem d_L_add_3 : decode cL_add 3 = .ok (.invokevirtual 39, 3) := by decide +kernel
theorem d_L_add_6 : decode cL_add 6 = .ok (.ireturn, 1) := by decide +kernel
theorem d_L_add_7 : decode cL_add 7 = .ok (.astore_n 3, 1) := by decide +kernel
theorem d_L_add_8 : decode cL_add 8 = .ok (.iconst (-1), 1) := by decide +kernel
theorem d_L_add_9 : decode cL_add 9 = .ok (.ireturn, 1) := by decide +kernel
theorem d_L_takeOff_0 : decode cL_takeOff 0 = .ok (.aload_n 0, 1) := by decide +kernel
theorem d_L_takeOff_1 : decode cL_takeOff 1 = .ok (.iload_n 1, 1) := by decide +kernel
theorem d_L_takeOff_2 : decode cL_takeOff 2 = .ok (.invokevirtual 45, 3) := by decide +kernel
theorem d_L_takeOff_5 : decode cL_takeOff 5 = .ok (.ireturn, 1) := by decide +kernel
theorem d_L_takeOff_6 : decode cL_takeOff 6 = .ok (.astore_n 2, 1) := by decide +kernel
theorem d_L_takeOff_7 : decode cL_takeOff 7 = .ok (.iconst (-1), 1) := by decide +kernel
theorem d_L_takeOff_8 : decode cL_takeOff 8 = .ok (.ireturn, 1) := by decide +kernel
theorem d_L_order_0 : decode cL_order 0 = .ok (.aload_n 0, 1) := by decide +kernel
theorem d_L_order_1 : decode cL_order 1 = .ok (.iload_n 1, 1) := by decide +kernel
theorem d_L_order_2 : decode cL_order 2 = .ok (.iload_n 2, 1) := by decide +kernel
theorem d_L_order_3 : decode cL_order 3 = .ok (.iload_n 3, 1) := by decide +kernel
theorem d_L_order_4 : decode cL_order 4 = .ok (.iload 4, 2) := by decide +kernel
theorem d_L_order_6 : decode cL_order 6 = .ok (.invokevirtual 49, 3) := by decide +kernel
theorem d_L_order_9 : decode cL_order 9 = .ok (.ireturn, 1) := by decide +kernel
theorem d_L_order_10 : decode cL_order 10 = .ok (.astore 5, 2) := by decide +kernel
theorem d_L_order_12 : decode cL_order 12 = .ok (.iconst (-1), 1) := by decide +kernel
theorem d_L_order_13 : decode cL_order 13 = .ok (.ireturn, 1) := by decide +kernel
theorem d_L_assign_0 : decode cL_assign 0 = .ok (.aload_n 0, 1) := by decide +kernel
theorem d_L_assign_1 : decode cL_assign 1 = .ok (.iload_n 1, 1) := by decide +kernel
theorem d_L_assign_2 : decode cL_assign 2 = .ok (.iload_n 2, 1) := by decide +kernel
theorem d_L_assign_3 : decode cL_assign 3 = .ok (.invokevirtual 53, 3) := by decide +kernel
theorem d_L_assign_6 : decode cL_assign 6 = .ok (.ireturn, 1) := by decide +kernel
theorem d_L_assign_7 : decode cL_assign 7 = .ok (.astore_n 3, 1) := by decide +kernel
theorem d_L_assign_8 : decode cL_assign 8 = .ok (.iconst (-1), 1) := by decide +kernel
theorem d_L_assign_9 : decode cL_assign 9 = .ok (.ireturn, 1) := by decide +kernel
theorem d_L_release_0 : decode cL_release 0 = .ok (.aload_n 0, 1) := by decide +kernel
theorem d_L_release_1 : decode cL_release 1 = .ok (.iload_n 1, 1) := by decide +kernel
theorem d_L_release_2 : decode cL_release 2 = .ok (.invokevirtual 56, 3) := by decide +kernel
theorem d_L_release_5 : decode cL_release 5 = .ok (.ireturn, 1) := by decide +kernel
theorem d_L_release_6 : decode cL_release 6 = .ok (.astore_n 2, 1) := by decide +kernel
theorem d_L_release_7 : decode cL_release 7 = .ok (.bipush (-2), 2) := by decide +kernel
theorem d_L_release_9 : decode cL_release 9 = .ok (.ireturn, 1) := by decide +kernel
theorem d_L_close_0 : decode cL_close 0 = .ok (.aload_n 0, 1) := by decide +kernel
theorem d_L_close_1 : decode cL_close 1 = .ok (.iload_n 1, 1) := by decide +kernel
theorem d_L_close_2 : decode cL_close 2 = .ok (.invokevirtual 59, 3) := by decide +kernel
theorem d_L_close_5 : decode cL_close 5 = .ok (.ireturn, 1) := by decide +kernel
theorem d_L_close_6 : decode cL_close 6 = .ok (.astore_n 2, 1) := by decide +kernel
theorem d_L_close_7 : decode cL_close 7 = .ok (.iconst (-1), 1) := by decide +kernel
theorem d_L_close_8 : decode cL_close 8 = .ok (.ireturn, 1) := by decide +kernel
theorem d_L_open_0 : decode cL_open 0 = .ok (.aload_n 0, 1) := by decide +kernel
theorem d_L_open_1 : decode cL_open 1 = .ok (.iload_n 1, 1) := by decide +kernel
theorem d_L_open_2 : decode cL_open 2 = .ok (.invokevirtual 62, 3) := by decide +kernel
theorem d_L_open_5 : decode cL_open 5 = .ok (.ireturn, 1) := by decide +kernel
theorem d_L_open_6 : decode cL_open 6 = .ok (.astore_n 2, 1) := by decide +kernel
theorem d_L_open_7 : decode cL_open 7 = .ok (.iconst (-1), 1) := by decide +kernel
theorem d_L_open_8 : decode cL_open 8 = .ok (.ireturn, 1) := by decide +kernel
theorem d_L_set_0 : decode cL_set 0 = .ok (.aload_n 0, 1) := by decide +kernel
theorem d_L_set_1 : decode cL_set 1 = .ok (.iload_n 1, 1) := by decide +kernel
theorem d_L_set_2 : decode cL_set 2 = .ok (.iload_n 2, 1) := by decide +kernel
theorem d_L_set_3 : decode cL_set 3 = .ok (.invokevirtual 65, 3) := by decide +kernel
theorem d_L_set_6 : decode cL_set 6 = .ok (.ireturn, 1) := by decide +kernel
theorem d_L_set_7 : decode cL_set 7 = .ok (.astore_n 3, 1) := by decide +kernel
theorem d_L_set_8 : decode cL_set 8 = .ok (.iconst (-1), 1) := by decide +kernel
theorem d_L_set_9 : decode cL_set 9 = .ok (.ireturn, 1) := by decide +kernel
theorem d_L_plan_0 : decode cL_plan 0 = .ok (.aload_n 0, 1) := by decide +kernel
theorem d_L_plan_1 : decode cL_plan 1 = .ok (.iload_n 1, 1) := by decide +kernel
theorem d_L_plan_2 : decode cL_plan 2 = .ok (.iload_n 2, 1) := by decide +kernel
theorem d_L_plan_3 : decode cL_plan 3 = .ok (.invokevirtual 68, 3) := by decide +kernel
theorem d_L_plan_6 : decode cL_plan 6 = .ok (.ireturn, 1) := by decide +kernel
theorem d_L_plan_7 : decode cL_plan 7 = .ok (.astore_n 3, 1) := by decide +kernel
theorem d_L_plan_8 : decode cL_plan 8 = .ok (.iconst (-1), 1) := by decide +kernel
theorem d_L_plan_9 : decode cL_plan 9 = .ok (.ireturn, 1) := by decide +kernel
theorem d_L_cancel_0 : decode cL_cancel 0 = .ok (.aload_n 0, 1) := by decide +kernel
theorem d_L_cancel_1 : decode cL_cancel 1 = .ok (.iload_n 1, 1) := by decide +kernel
theorem d_L_cancel_2 : decode cL_cancel 2 = .ok (.invokevirtual 71, 3) := by decide +kernel
theorem d_L_cancel_5 : decode cL_cancel 5 = .ok (.ireturn, 1) := by decide +kernel
theorem d_L_cancel_6 : decode cL_cancel 6 = .ok (.astore_n 2, 1) := by decide +kernel
theorem d_L_cancel_7 : decode cL_cancel 7 = .ok (.iconst (-1), 1) := by decide +kernel
theorem d_L_cancel_8 : decode cL_cancel 8 = .ok (.ireturn, 1) := by decide +kernel
theorem d_L_pass_0 : decode cL_pass 0 = .ok (.aload_n 0, 1) := by decide +kernel
theorem d_L_pass_1 : decode cL_pass 1 = .ok (.iload_n 1, 1) := by decide +kernel
theorem d_L_pass_2 : decode cL_pass 2 = .ok (.invokevirtual 74, 3) := by decide +kernel
theorem d_L_pass_5 : decode cL_pass 5 = .ok (.ireturn, 1) := by decide +kernel
theorem d_L_pass_6 : decode cL_pass 6 = .ok (.astore_n 2, 1) := by decide +kernel
theorem d_L_pass_7 : decode cL_pass 7 = .ok (.iconst (-1), 1) := by decide +kernel
theorem d_L_pass_8 : decode cL_pass 8 = .ok (.ireturn, 1) := by decide +kernel
theorem d_L_distance_0 : decode cL_distance 0 = .ok (.aload_n 0, 1) := by decide +kernel
theorem d_L_distance_1 : decode cL_distance 1 = .ok (.iload_n 1, 1) := by decide +kernel
theorem d_L_distance_2 : decode cL_distance 2 = .ok (.iload_n 2, 1) := by decide +kernel
theorem d_L_distance_3 : decode cL_distance 3 = .ok (.invokevirtual 77, 3) := by decide +kernel
theorem d_L_distance_6 : decode cL_distance 6 = .ok (.ireturn, 1) := by decide +kernel
theorem d_L_distance_7 : decode cL_distance 7 = .ok (.astore_n 3, 1) := by decide +kernel
theorem d_L_distance_8 : decode cL_distance 8 = .ok (.iconst (-1), 1) := by decide +kernel
theorem d_L_distance_9 : decode cL_distance 9 = .ok (.ireturn, 1) := by decide +kernel
theorem d_L_distance_10 : decode cL_distance 10 = .ok (.astore_n 3, 1) := by decide +kernel
theorem d_L_distance_11 : decode cL_distance 11 = .ok (.bipush (-2), 2) := by decide +kernel
theorem d_L_distance_13 : decode cL_distance 13 = .ok (.ireturn, 1) := by decide +kernel
theorem d_L_distanceAgain_0 : decode cL_distanceAgain 0 = .ok (.aload_n 0, 1) := by decide +kernel
theorem d_L_distanceAgain_1 : decode cL_distanceAgain 1 = .ok (.iload_n 1, 1) := by decide +kernel
theorem d_L_distanceAgain_2 : decode cL_distanceAgain 2 = .ok (.iload_n 2, 1) := by decide +kernel
theorem d_L_distanceAgain_3 : decode cL_distanceAgain 3 = .ok (.invokevirtual 84, 3) := by decide +kernel
theorem d_L_distanceAgain_6 : decode cL_distanceAgain 6 = .ok (.ireturn, 1) := by decide +kernel
theorem d_L_distanceAgain_7 : decode cL_distanceAgain 7 = .ok (.astore_n 3, 1) := by decide +kernel
theorem d_L_distanceAgain_8 : decode cL_distanceAgain 8 = .ok (.iconst (-1), 1) := by decide +kernel
theorem d_L_distanceAgain_9 : decode cL_distanceAgain 9 = .ok (.ireturn, 1) := by decide +kernel
theorem d_L_distanceAgain_10 : decode cL_distanceAgain 10 = .ok (.astore_n 3, 1) := by decide +kernel
theorem d_L_distanceAgain_11 : decode cL_distanceAgain 11 = .ok (.bipush (-2), 2) := by decide +kernel
theorem d_L_distanceAgain_13 : decode cL_distanceAgain 13 = .ok (.ireturn, 1) := by decide +kernel
theorem d_L_arrival_0 : decode cL_arrival 0 = .ok (.aload_n 0, 1) := by decide +kernel
theorem d_L_arrival_1 : decode cL_arrival 1 = .ok (.iload_n 1, 1) := by decide +kernel
theorem d_L_arrival_2 : decode cL_arrival 2 = .ok (.iload_n 2, 1) := by decide +kernel
theorem d_L_arrival_3 : decode cL_arrival 3 = .ok (.invokevirtual 87, 3) := by decide +kernel
theorem d_L_arrival_6 : decode cL_arrival 6 = .ok (.ireturn, 1) := by decide +kernel
theorem d_L_arrival_7 : decode cL_arrival 7 = .ok (.astore_n 3, 1) := by decide +kernel
theorem d_L_arrival_8 : decode cL_arrival 8 = .ok (.iconst (-1), 1) := by decide +kernel
theorem d_L_arrival_9 : decode cL_arrival 9 = .ok (.ireturn, 1) := by decide +kernel
theorem d_L_arrival_10 : decode cL_arrival 10 = .ok (.astore_n 3, 1) := by decide +kernel
theorem d_L_arrival_11 : decode cL_arrival 11 = .ok (.bipush (-2), 2) := by decide +kernel
theorem d_L_arrival_13 : decode cL_arrival 13 = .ok (.ireturn, 1) := by decide +kernel
theorem d_L_arrivalAgain_0 : decode cL_arrivalAgain 0 = .ok (.aload_n 0, 1) := by decide +kernel
theorem d_L_arrivalAgain_1 : decode cL_arrivalAgain 1 = .ok (.iload_n 1, 1) := by decide +kernel
theorem d_L_arrivalAgain_2 : decode cL_arrivalAgain 2 = .ok (.iload_n 2, 1) := by decide +kernel
theorem d_L_arrivalAgain_3 : decode cL_arrivalAgain 3 = .ok (.invokevirtual 90, 3) := by decide +kernel
theorem d_L_arrivalAgain_6 : decode cL_arrivalAgain 6 = .ok (.ireturn, 1) := by decide +kernel
theorem d_L_arrivalAgain_7 : decode cL_arrivalAgain 7 = .ok (.astore_n 3, 1) := by decide +kernel
theorem d_L_arrivalAgain_8 : decode cL_arrivalAgain 8 = .ok (.iconst (-1), 1) := by decide +kernel
theorem d_L_arrivalAgain_9 : decode cL_arrivalAgain 9 = .ok (.ireturn, 1) := by decide +kernel
theorem d_L_arrivalAgain_10 : decode cL_arrivalAgain 10 = .ok (.astore_n 3, 1) := by decide +kernel
theorem d_L_arrivalAgain_11 : decode cL_arrivalAgain 11 = .ok (.bipush (-2), 2) := by decide +kernel
theorem d_L_arrivalAgain_13 : decode cL_arrivalAgain 13 = .ok (.ireturn, 1) := by decide +kernel
theorem d_L_suited_0 : decode cL_suited 0 = .ok (.aload_n 0, 1) := by decide +kernel
theorem d_L_suited_1 : decode cL_suited 1 = .ok (.iload_n 1, 1) := by decide +kernel
theorem d_L_suited_2 : decode cL_suited 2 = .ok (.invokevirtual 93, 3) := by decide +kernel
theorem d_L_suited_5 : decode cL_suited 5 = .ok (.ireturn, 1) := by decide +kernel
theorem d_L_suited_6 : decode cL_suited 6 = .ok (.astore_n 2, 1) := by decide +kernel
theorem d_L_suited_7 : decode cL_suited 7 = .ok (.iconst (-1), 1) := by decide +kernel
theorem d_L_suited_8 : decode cL_suited 8 = .ok (.ireturn, 1) := by decide +kernel
theorem d_L_suited_9 : decode cL_suited 9 = .ok (.astore_n 2, 1) := by decide +kernel
theorem d_L_suited_10 : decode cL_suited 10 = .ok (.bipush (-2), 2) := by decide +kernel
theorem d_L_suited_12 : decode cL_suited 12 = .ok (.ireturn, 1) := by decide +kernel
theorem d_L_waiting_0 : decode cL_waiting 0 = .ok (.aload_n 0, 1) := by decide +kernel
theorem d_L_waiting_1 : decode cL_waiting 1 = .ok (.iload_n 1, 1) := by decide +kernel
theorem d_L_waiting_2 : decode cL_waiting 2 = .ok (.invokevirtual 99, 3) := by decide +kernel
theorem d_L_waiting_5 : decode cL_waiting 5 = .ok (.ireturn, 1) := by decide +kernel
theorem d_L_waiting_6 : decode cL_waiting 6 = .ok (.astore_n 2, 1) := by decide +kernel
theorem d_L_waiting_7 : decode cL_waiting 7 = .ok (.bipush (-2), 2) := by decide +kernel
theorem d_L_waiting_9 : decode cL_waiting 9 = .ok (.ireturn, 1) := by decide +kernel
theorem d_L_reason_0 : decode cL_reason 0 = .ok (.aload_n 0, 1) := by decide +kernel
theorem d_L_reason_1 : decode cL_reason 1 = .ok (.iload_n 1, 1) := by decide +kernel
theorem d_L_reason_2 : decode cL_reason 2 = .ok (.invokevirtual 102, 3) := by decide +kernel
theorem d_L_reason_5 : decode cL_reason 5 = .ok (.ireturn, 1) := by decide +kernel
theorem d_L_reason_6 : decode cL_reason 6 = .ok (.astore_n 2, 1) := by decide +kernel
theorem d_L_reason_7 : decode cL_reason 7 = .ok (.bipush (-2), 2) := by decide +kernel
theorem d_L_reason_9 : decode cL_reason 9 = .ok (.ireturn, 1) := by decide +kernel
theorem d_L_undo_0 : decode cL_undo 0 = .ok (.aload_n 0, 1) := by decide +kernel
theorem d_L_undo_1 : decode cL_undo 1 = .ok (.invokevirtual 106, 3) := by decide +kernel
theorem d_L_undo_4 : decode cL_undo 4 = .ok (.ireturn, 1) := by decide +kernel
theorem d_L_undo_5 : decode cL_undo 5 = .ok (.astore_n 1, 1) := by decide +kernel
theorem d_L_undo_6 : decode cL_undo 6 = .ok (.iconst (-1), 1) := by decide +kernel
theorem d_L_undo_7 : decode cL_undo 7 = .ok (.ireturn, 1) := by decide +kernel
theorem d_L_cells_0 : decode cL_cells 0 = .ok (.aload_n 0, 1) := by decide +kernel
theorem d_L_cells_1 : decode cL_cells 1 = .ok (.iconst 0, 1) := by decide +kernel
theorem d_L_cells_2 : decode cL_cells 2 = .ok (.invokevirtual 109, 3) := by decide +kernel
theorem d_L_cells_5 : decode cL_cells 5 = .ok (.aload_n 0, 1) := by decide +kernel
theorem d_L_cells_6 : decode cL_cells 6 = .ok (.iconst 1, 1) := by decide +kernel
theorem d_L_cells_7 : decode cL_cells 7 = .ok (.invokevirtual 109, 3) := by decide +kernel
theorem d_L_cells_10 : decode cL_cells 10 = .ok (.imul, 1) := by decide +kernel
theorem d_L_cells_11 : decode cL_cells 11 = .ok (.ireturn, 1) := by decide +kernel
theorem d_L_drawn_0 : decode cL_drawn 0 = .ok (.new 9, 3) := by decide +kernel
theorem d_L_drawn_3 : decode cL_drawn 3 = .ok (.dup, 1) := by decide +kernel
theorem d_L_drawn_4 : decode cL_drawn 4 = .ok (.invokespecial 112, 3) := by decide +kernel
theorem d_L_drawn_7 : decode cL_drawn 7 = .ok (.astore_n 1, 1) := by decide +kernel
theorem d_L_drawn_8 : decode cL_drawn 8 = .ok (.iconst 2, 1) := by decide +kernel
theorem d_L_drawn_9 : decode cL_drawn 9 = .ok (.aload_n 0, 1) := by decide +kernel
theorem d_L_drawn_10 : decode cL_drawn 10 = .ok (.iconst 0, 1) := by decide +kernel
theorem d_L_drawn_11 : decode cL_drawn 11 = .ok (.invokestatic 113, 3) := by decide +kernel
theorem d_L_drawn_14 : decode cL_drawn 14 = .ok (.iconst 1, 1) := by decide +kernel
theorem d_L_drawn_15 : decode cL_drawn 15 = .ok (.iushr, 1) := by decide +kernel
theorem d_L_drawn_16 : decode cL_drawn 16 = .ok (.iconst 4, 1) := by decide +kernel
theorem d_L_drawn_17 : decode cL_drawn 17 = .ok (.irem, 1) := by decide +kernel
theorem d_L_drawn_18 : decode cL_drawn 18 = .ok (.iadd, 1) := by decide +kernel
theorem d_L_drawn_19 : decode cL_drawn 19 = .ok (.istore_n 2, 1) := by decide +kernel
theorem d_L_drawn_20 : decode cL_drawn 20 = .ok (.iconst 3, 1) := by decide +kernel
theorem d_L_drawn_21 : decode cL_drawn 21 = .ok (.aload_n 0, 1) := by decide +kernel
theorem d_L_drawn_22 : decode cL_drawn 22 = .ok (.iconst 1, 1) := by decide +kernel
theorem d_L_drawn_23 : decode cL_drawn 23 = .ok (.invokestatic 113, 3) := by decide +kernel
theorem d_L_drawn_26 : decode cL_drawn 26 = .ok (.iconst 1, 1) := by decide +kernel
theorem d_L_drawn_27 : decode cL_drawn 27 = .ok (.iushr, 1) := by decide +kernel
theorem d_L_drawn_28 : decode cL_drawn 28 = .ok (.iconst 4, 1) := by decide +kernel
theorem d_L_drawn_29 : decode cL_drawn 29 = .ok (.irem, 1) := by decide +kernel
theorem d_L_drawn_30 : decode cL_drawn 30 = .ok (.iadd, 1) := by decide +kernel
theorem d_L_drawn_31 : decode cL_drawn 31 = .ok (.istore_n 3, 1) := by decide +kernel
theorem d_L_drawn_32 : decode cL_drawn 32 = .ok (.ldc 117, 2) := by decide +kernel
theorem d_L_drawn_34 : decode cL_drawn 34 = .ok (.astore 4, 2) := by decide +kernel
theorem d_L_drawn_36 : decode cL_drawn 36 = .ok (.iconst 0, 1) := by decide +kernel
theorem d_L_drawn_37 : decode cL_drawn 37 = .ok (.istore 5, 2) := by decide +kernel
theorem d_L_drawn_39 : decode cL_drawn 39 = .ok (.iload 5, 2) := by decide +kernel
theorem d_L_drawn_41 : decode cL_drawn 41 = .ok (.iload_n 2, 1) := by decide +kernel
theorem d_L_drawn_42 : decode cL_drawn 42 = .ok (.iload_n 3, 1) := by decide +kernel
theorem d_L_drawn_43 : decode cL_drawn 43 = .ok (.imul, 1) := by decide +kernel
theorem d_L_drawn_44 : decode cL_drawn 44 = .ok (.if_icmp .ge 112, 3) := by decide +kernel
theorem d_L_drawn_47 : decode cL_drawn 47 = .ok (.aload_n 0, 1) := by decide +kernel
theorem d_L_drawn_48 : decode cL_drawn 48 = .ok (.iconst 2, 1) := by decide +kernel
theorem d_L_drawn_49 : decode cL_drawn 49 = .ok (.iload 5, 2) := by decide +kernel
theorem d_L_drawn_51 : decode cL_drawn 51 = .ok (.bipush 7, 2) := by decide +kernel
theorem d_L_drawn_53 : decode cL_drawn 53 = .ok (.irem, 1) := by decide +kernel
theorem d_L_drawn_54 : decode cL_drawn 54 = .ok (.iadd, 1) := by decide +kernel
theorem d_L_drawn_55 : decode cL_drawn 55 = .ok (.invokestatic 113, 3) := by decide +kernel
theorem d_L_drawn_58 : decode cL_drawn 58 = .ok (.iconst 1, 1) := by decide +kernel
theorem d_L_drawn_59 : decode cL_drawn 59 = .ok (.iconst 3, 1) := by decide +kernel
theorem d_L_drawn_60 : decode cL_drawn 60 = .ok (.iload 5, 2) := by decide +kernel
theorem d_L_drawn_62 : decode cL_drawn 62 = .ok (.bipush 7, 2) := by decide +kernel
theorem d_L_drawn_64 : decode cL_drawn 64 = .ok (.idiv, 1) := by decide +kernel
theorem d_L_drawn_65 : decode cL_drawn 65 = .ok (.imul, 1) := by decide +kernel
theorem d_L_drawn_66 : decode cL_drawn 66 = .ok (.iadd, 1) := by decide +kernel
theorem d_L_drawn_67 : decode cL_drawn 67 = .ok (.iushr, 1) := by decide +kernel
theorem d_L_drawn_68 : decode cL_drawn 68 = .ok (.bipush 16, 2) := by decide +kernel
theorem d_L_drawn_70 : decode cL_drawn 70 = .ok (.irem, 1) := by decide +kernel
theorem d_L_drawn_71 : decode cL_drawn 71 = .ok (.istore 6, 2) := by decide +kernel
theorem d_L_drawn_73 : decode cL_drawn 73 = .ok (.new 119, 3) := by decide +kernel
theorem d_L_drawn_76 : decode cL_drawn 76 = .ok (.dup, 1) := by decide +kernel
theorem d_L_drawn_77 : decode cL_drawn 77 = .ok (.invokespecial 121, 3) := by decide +kernel
theorem d_L_drawn_80 : decode cL_drawn 80 = .ok (.aload 4, 2) := by decide +kernel
theorem d_L_drawn_82 : decode cL_drawn 82 = .ok (.invokevirtual 122, 3) := by decide +kernel
theorem d_L_drawn_85 : decode cL_drawn 85 = .ok (.iload 5, 2) := by decide +kernel
theorem d_L_drawn_87 : decode cL_drawn 87 = .ok (.ifCond .le 15, 3) := by decide +kernel
theorem d_L_drawn_90 : decode cL_drawn 90 = .ok (.iload 5, 2) := by decide +kernel
theorem d_L_drawn_92 : decode cL_drawn 92 = .ok (.iload_n 3, 1) := by decide +kernel
theorem d_L_drawn_93 : decode cL_drawn 93 = .ok (.irem, 1) := by decide +kernel
theorem d_L_drawn_94 : decode cL_drawn 94 = .ok (.ifCond .ne 8, 3) := by decide +kernel
theorem d_L_drawn_97 : decode cL_drawn 97 = .ok (.ldc 125, 2) := by decide +kernel
theorem d_L_drawn_99 : decode cL_drawn 99 = .ok (.goto 5, 3) := by decide +kernel
theorem d_L_drawn_102 : decode cL_drawn 102 = .ok (.ldc 117, 2) := by decide +kernel
theorem d_L_drawn_104 : decode cL_drawn 104 = .ok (.invokevirtual 122, 3) := by decide +kernel
theorem d_L_drawn_107 : decode cL_drawn 107 = .ok (.iload 6, 2) := by decide +kernel
theorem d_L_drawn_109 : decode cL_drawn 109 = .ok (.iconst 3, 1) := by decide +kernel
theorem d_L_drawn_110 : decode cL_drawn 110 = .ok (.if_icmp .ge 8, 3) := by decide +kernel
theorem d_L_drawn_113 : decode cL_drawn 113 = .ok (.ldc 127, 2) := by decide +kernel
theorem d_L_drawn_115 : decode cL_drawn 115 = .ok (.goto 27, 3) := by decide +kernel
theorem d_L_drawn_118 : decode cL_drawn 118 = .ok (.iload 6, 2) := by decide +kernel
theorem d_L_drawn_120 : decode cL_drawn 120 = .ok (.iconst 3, 1) := by decide +kernel
theorem d_L_drawn_121 : decode cL_drawn 121 = .ok (.if_icmp .ne 8, 3) := by decide +kernel
theorem d_L_drawn_124 : decode cL_drawn 124 = .ok (.ldc 129, 2) := by decide +kernel
theorem d_L_drawn_126 : decode cL_drawn 126 = .ok (.goto 16, 3) := by decide +kernel
theorem d_L_drawn_129 : decode cL_drawn 129 = .ok (.iload 6, 2) := by decide +kernel
theorem d_L_drawn_131 : decode cL_drawn 131 = .ok (.iconst 4, 1) := by decide +kernel
theorem d_L_drawn_132 : decode cL_drawn 132 = .ok (.if_icmp .ne 8, 3) := by decide +kernel
theorem d_L_drawn_135 : decode cL_drawn 135 = .ok (.ldc 131, 2) := by decide +kernel
theorem d_L_drawn_137 : decode cL_drawn 137 = .ok (.goto 5, 3) := by decide +kernel
theorem d_L_drawn_140 : decode cL_drawn 140 = .ok (.ldc 133, 2) := by decide +kernel
theorem d_L_drawn_142 : decode cL_drawn 142 = .ok (.invokevirtual 122, 3) := by decide +kernel
theorem d_L_drawn_145 : decode cL_drawn 145 = .ok (.invokevirtual 135, 3) := by decide +kernel
theorem d_L_drawn_148 : decode cL_drawn 148 = .ok (.astore 4, 2) := by decide +kernel
theorem d_L_drawn_150 : decode cL_drawn 150 = .ok (.iinc 5 1, 3) := by decide +kernel
theorem d_L_drawn_153 : decode cL_drawn 153 = .ok (.goto (-114), 3) := by decide +kernel
theorem d_L_drawn_156 : decode cL_drawn 156 = .ok (.aload_n 1, 1) := by decide +kernel
theorem d_L_drawn_157 : decode cL_drawn 157 = .ok (.aload 4, 2) := by decide +kernel
theorem d_L_drawn_159 : decode cL_drawn 159 = .ok (.invokestatic 139, 3) := by decide +kernel
theorem d_L_drawn_162 : decode cL_drawn 162 = .ok (.iload_n 2, 1) := by decide +kernel
theorem d_L_drawn_163 : decode cL_drawn 163 = .ok (.iload_n 3, 1) := by decide +kernel
theorem d_L_drawn_164 : decode cL_drawn 164 = .ok (.imul, 1) := by decide +kernel
theorem d_L_drawn_165 : decode cL_drawn 165 = .ok (.if_icmp .ne 27, 3) := by decide +kernel
theorem d_L_drawn_168 : decode cL_drawn 168 = .ok (.aload_n 1, 1) := by decide +kernel
theorem d_L_drawn_169 : decode cL_drawn 169 = .ok (.iconst 2, 1) := by decide +kernel
theorem d_L_drawn_170 : decode cL_drawn 170 = .ok (.bipush 8, 2) := by decide +kernel
theorem d_L_drawn_172 : decode cL_drawn 172 = .ok (.aload_n 0, 1) := by decide +kernel
theorem d_L_drawn_173 : decode cL_drawn 173 = .ok (.bipush 9, 2) := by decide +kernel
theorem d_L_drawn_175 : decode cL_drawn 175 = .ok (.invokestatic 113, 3) := by decide +kernel
theorem d_L_drawn_178 : decode cL_drawn 178 = .ok (.iconst 1, 1) := by decide +kernel
theorem d_L_drawn_179 : decode cL_drawn 179 = .ok (.iushr, 1) := by decide +kernel
theorem d_L_drawn_180 : decode cL_drawn 180 = .ok (.bipush 9, 2) := by decide +kernel
theorem d_L_drawn_182 : decode cL_drawn 182 = .ok (.irem, 1) := by decide +kernel
theorem d_L_drawn_183 : decode cL_drawn 183 = .ok (.iadd, 1) := by decide +kernel
theorem d_L_drawn_184 : decode cL_drawn 184 = .ok (.invokestatic 142, 3) := by decide +kernel
theorem d_L_drawn_187 : decode cL_drawn 187 = .ok (.bipush 30, 2) := by decide +kernel
theorem d_L_drawn_189 : decode cL_drawn 189 = .ok (.if_icmp .eq 5, 3) := by decide +kernel
theorem d_L_drawn_192 : decode cL_drawn 192 = .ok (.aconst_null, 1) := by decide +kernel
theorem d_L_drawn_193 : decode cL_drawn 193 = .ok (.areturn, 1) := by decide +kernel
theorem d_L_drawn_194 : decode cL_drawn 194 = .ok (.iconst 0, 1) := by decide +kernel
theorem d_L_drawn_195 : decode cL_drawn 195 = .ok (.istore 5, 2) := by decide +kernel
theorem d_L_drawn_197 : decode cL_drawn 197 = .ok (.iload 5, 2) := by decide +kernel
theorem d_L_drawn_199 : decode cL_drawn 199 = .ok (.iconst 4, 1) := by decide +kernel
theorem d_L_drawn_200 : decode cL_drawn 200 = .ok (.if_icmp .ge 86, 3) := by decide +kernel
theorem d_L_drawn_203 : decode cL_drawn 203 = .ok (.aload_n 0, 1) := by decide +kernel
theorem d_L_drawn_204 : decode cL_drawn 204 = .ok (.bipush 10, 2) := by decide +kernel
theorem d_L_drawn_206 : decode cL_drawn 206 = .ok (.iload 5, 2) := by decide +kernel
theorem d_L_drawn_208 : decode cL_drawn 208 = .ok (.iadd, 1) := by decide +kernel
theorem d_L_drawn_209 : decode cL_drawn 209 = .ok (.invokestatic 113, 3) := by decide +kernel
theorem d_L_drawn_212 : decode cL_drawn 212 = .ok (.iconst 1, 1) := by decide +kernel
theorem d_L_drawn_213 : decode cL_drawn 213 = .ok (.iushr, 1) := by decide +kernel
theorem d_L_drawn_214 : decode cL_drawn 214 = .ok (.istore 6, 2) := by decide +kernel
theorem d_L_drawn_216 : decode cL_drawn 216 = .ok (.aload_n 1, 1) := by decide +kernel
theorem d_L_drawn_217 : decode cL_drawn 217 = .ok (.iconst 2, 1) := by decide +kernel
theorem d_L_drawn_218 : decode cL_drawn 218 = .ok (.invokevirtual 109, 3) := by decide +kernel
theorem d_L_drawn_221 : decode cL_drawn 221 = .ok (.istore 7, 2) := by decide +kernel
theorem d_L_drawn_223 : decode cL_drawn 223 = .ok (.aload_n 1, 1) := by decide +kernel
theorem d_L_drawn_224 : decode cL_drawn 224 = .ok (.iload 6, 2) := by decide +kernel
theorem d_L_drawn_226 : decode cL_drawn 226 = .ok (.aload_n 1, 1) := by decide +kernel
theorem d_L_drawn_227 : decode cL_drawn 227 = .ok (.invokestatic 145, 3) := by decide +kernel
theorem d_L_drawn_230 : decode cL_drawn 230 = .ok (.irem, 1) := by decide +kernel
theorem d_L_drawn_231 : decode cL_drawn 231 = .ok (.bipush 12, 2) := by decide +kernel
theorem d_L_drawn_233 : decode cL_drawn 233 = .ok (.iload 6, 2) := by decide +kernel
theorem d_L_drawn_235 : decode cL_drawn 235 = .ok (.bipush 6, 2) := by decide +kernel
theorem d_L_drawn_237 : decode cL_drawn 237 = .ok (.iushr, 1) := by decide +kernel
theorem d_L_drawn_238 : decode cL_drawn 238 = .ok (.bipush 60, 2) := by decide +kernel
theorem d_L_drawn_240 : decode cL_drawn 240 = .ok (.irem, 1) := by decide +kernel
theorem d_L_drawn_241 : decode cL_drawn 241 = .ok (.iadd, 1) := by decide +kernel
theorem d_L_drawn_242 : decode cL_drawn 242 = .ok (.invokestatic 148, 3) := by decide +kernel
theorem d_L_drawn_245 : decode cL_drawn 245 = .ok (.istore 8, 2) := by decide +kernel
theorem d_L_drawn_247 : decode cL_drawn 247 = .ok (.iload 8, 2) := by decide +kernel
theorem d_L_drawn_249 : decode cL_drawn 249 = .ok (.iload 7, 2) := by decide +kernel
theorem d_L_drawn_251 : decode cL_drawn 251 = .ok (.if_icmp .eq 29, 3) := by decide +kernel
theorem d_L_drawn_254 : decode cL_drawn 254 = .ok (.iload 8, 2) := by decide +kernel
theorem d_L_drawn_256 : decode cL_drawn 256 = .ok (.iconst (-1), 1) := by decide +kernel
theorem d_L_drawn_257 : decode cL_drawn 257 = .ok (.if_icmp .ne 21, 3) := by decide +kernel
theorem d_L_drawn_260 : decode cL_drawn 260 = .ok (.aload_n 1, 1) := by decide +kernel
theorem d_L_drawn_261 : decode cL_drawn 261 = .ok (.iconst 0, 1) := by decide +kernel
theorem d_L_drawn_262 : decode cL_drawn 262 = .ok (.invokestatic 150, 3) := by decide +kernel
theorem d_L_drawn_265 : decode cL_drawn 265 = .ok (.iconst 4, 1) := by decide +kernel
theorem d_L_drawn_266 : decode cL_drawn 266 = .ok (.if_icmp .lt 12, 3) := by decide +kernel
theorem d_L_drawn_269 : decode cL_drawn 269 = .ok (.aload_n 1, 1) := by decide +kernel
theorem d_L_drawn_270 : decode cL_drawn 270 = .ok (.iconst 0, 1) := by decide +kernel
theorem d_L_drawn_271 : decode cL_drawn 271 = .ok (.invokestatic 150, 3) := by decide +kernel
theorem d_L_drawn_274 : decode cL_drawn 274 = .ok (.iconst 5, 1) := by decide +kernel
theorem d_L_drawn_275 : decode cL_drawn 275 = .ok (.if_icmp .le 5, 3) := by decide +kernel
theorem d_L_drawn_278 : decode cL_drawn 278 = .ok (.aconst_null, 1) := by decide +kernel
theorem d_L_drawn_279 : decode cL_drawn 279 = .ok (.areturn, 1) := by decide +kernel
theorem d_L_drawn_280 : decode cL_drawn 280 = .ok (.iinc 5 1, 3) := by decide +kernel
theorem d_L_drawn_283 : decode cL_drawn 283 = .ok (.goto (-86), 3) := by decide +kernel
theorem d_L_drawn_286 : decode cL_drawn 286 = .ok (.iconst 0, 1) := by decide +kernel
theorem d_L_drawn_287 : decode cL_drawn 287 = .ok (.istore 5, 2) := by decide +kernel
theorem d_L_drawn_289 : decode cL_drawn 289 = .ok (.iload 5, 2) := by decide +kernel
theorem d_L_drawn_291 : decode cL_drawn 291 = .ok (.iconst 4, 1) := by decide +kernel
theorem d_L_drawn_292 : decode cL_drawn 292 = .ok (.if_icmp .ge 97, 3) := by decide +kernel
theorem d_L_drawn_295 : decode cL_drawn 295 = .ok (.aload_n 0, 1) := by decide +kernel
theorem d_L_drawn_296 : decode cL_drawn 296 = .ok (.bipush 14, 2) := by decide +kernel
theorem d_L_drawn_298 : decode cL_drawn 298 = .ok (.iload 5, 2) := by decide +kernel
theorem d_L_drawn_300 : decode cL_drawn 300 = .ok (.iadd, 1) := by decide +kernel
theorem d_L_drawn_301 : decode cL_drawn 301 = .ok (.invokestatic 113, 3) := by decide +kernel
theorem d_L_drawn_304 : decode cL_drawn 304 = .ok (.iconst 1, 1) := by decide +kernel
theorem d_L_drawn_305 : decode cL_drawn 305 = .ok (.iushr, 1) := by decide +kernel
theorem d_L_drawn_306 : decode cL_drawn 306 = .ok (.istore 6, 2) := by decide +kernel
theorem d_L_drawn_308 : decode cL_drawn 308 = .ok (.aload_n 1, 1) := by decide +kernel
theorem d_L_drawn_309 : decode cL_drawn 309 = .ok (.iconst 3, 1) := by decide +kernel
theorem d_L_drawn_310 : decode cL_drawn 310 = .ok (.invokevirtual 109, 3) := by decide +kernel
theorem d_L_drawn_313 : decode cL_drawn 313 = .ok (.istore 7, 2) := by decide +kernel
theorem d_L_drawn_315 : decode cL_drawn 315 = .ok (.aload_n 1, 1) := by decide +kernel
theorem d_L_drawn_316 : decode cL_drawn 316 = .ok (.iload 6, 2) := by decide +kernel
theorem d_L_drawn_318 : decode cL_drawn 318 = .ok (.iconst 3, 1) := by decide +kernel
theorem d_L_drawn_319 : decode cL_drawn 319 = .ok (.iushr, 1) := by decide +kernel
theorem d_L_drawn_320 : decode cL_drawn 320 = .ok (.iconst 4, 1) := by decide +kernel
theorem d_L_drawn_321 : decode cL_drawn 321 = .ok (.irem, 1) := by decide +kernel
theorem d_L_drawn_322 : decode cL_drawn 322 = .ok (.iload 6, 2) := by decide +kernel
theorem d_L_drawn_324 : decode cL_drawn 324 = .ok (.aload_n 1, 1) := by decide +kernel
theorem d_L_drawn_325 : decode cL_drawn 325 = .ok (.invokestatic 145, 3) := by decide +kernel
theorem d_L_drawn_328 : decode cL_drawn 328 = .ok (.irem, 1) := by decide +kernel
theorem d_L_drawn_329 : decode cL_drawn 329 = .ok (.iload 6, 2) := by decide +kernel
theorem d_L_drawn_331 : decode cL_drawn 331 = .ok (.iconst 5, 1) := by decide +kernel
theorem d_L_drawn_332 : decode cL_drawn 332 = .ok (.iushr, 1) := by decide +kernel
theorem d_L_drawn_333 : decode cL_drawn 333 = .ok (.iconst 2, 1) := by decide +kernel
theorem d_L_drawn_334 : decode cL_drawn 334 = .ok (.irem, 1) := by decide +kernel
theorem d_L_drawn_335 : decode cL_drawn 335 = .ok (.ifCond .ne 7, 3) := by decide +kernel
theorem d_L_drawn_338 : decode cL_drawn 338 = .ok (.iconst (-1), 1) := by decide +kernel
theorem d_L_drawn_339 : decode cL_drawn 339 = .ok (.goto 13, 3) := by decide +kernel
theorem d_L_drawn_342 : decode cL_drawn 342 = .ok (.iload 6, 2) := by decide +kernel
theorem d_L_drawn_344 : decode cL_drawn 344 = .ok (.bipush 6, 2) := by decide +kernel
theorem d_L_drawn_346 : decode cL_drawn 346 = .ok (.iushr, 1) := by decide +kernel
theorem d_L_drawn_347 : decode cL_drawn 347 = .ok (.aload_n 1, 1) := by decide +kernel
theorem d_L_drawn_348 : decode cL_drawn 348 = .ok (.invokestatic 145, 3) := by decide +kernel
theorem d_L_drawn_351 : decode cL_drawn 351 = .ok (.irem, 1) := by decide +kernel
theorem d_L_drawn_352 : decode cL_drawn 352 = .ok (.iconst (-1), 1) := by decide +kernel
theorem d_L_drawn_353 : decode cL_drawn 353 = .ok (.invokestatic 153, 3) := by decide +kernel
theorem d_L_drawn_356 : decode cL_drawn 356 = .ok (.istore 8, 2) := by decide +kernel
theorem d_L_drawn_358 : decode cL_drawn 358 = .ok (.iload 8, 2) := by decide +kernel
theorem d_L_drawn_360 : decode cL_drawn 360 = .ok (.iload 7, 2) := by decide +kernel
theorem d_L_drawn_362 : decode cL_drawn 362 = .ok (.if_icmp .eq 21, 3) := by decide +kernel
theorem d_L_drawn_365 : decode cL_drawn 365 = .ok (.iload 8, 2) := by decide +kernel
theorem d_L_drawn_367 : decode cL_drawn 367 = .ok (.iconst (-1), 1) := by decide +kernel
theorem d_L_drawn_368 : decode cL_drawn 368 = .ok (.if_icmp .ne 13, 3) := by decide +kernel
theorem d_L_drawn_371 : decode cL_drawn 371 = .ok (.aload_n 1, 1) := by decide +kernel
theorem d_L_drawn_372 : decode cL_drawn 372 = .ok (.iconst 0, 1) := by decide +kernel
theorem d_L_drawn_373 : decode cL_drawn 373 = .ok (.invokestatic 150, 3) := by decide +kernel
theorem d_L_drawn_376 : decode cL_drawn 376 = .ok (.bipush 12, 2) := by decide +kernel
theorem d_L_drawn_378 : decode cL_drawn 378 = .ok (.if_icmp .eq 5, 3) := by decide +kernel
theorem d_L_drawn_381 : decode cL_drawn 381 = .ok (.aconst_null, 1) := by decide +kernel
theorem d_L_drawn_382 : decode cL_drawn 382 = .ok (.areturn, 1) := by decide +kernel
theorem d_L_drawn_383 : decode cL_drawn 383 = .ok (.iinc 5 1, 3) := by decide +kernel
theorem d_L_drawn_386 : decode cL_drawn 386 = .ok (.goto (-97), 3) := by decide +kernel
theorem d_L_drawn_389 : decode cL_drawn 389 = .ok (.iconst 0, 1) := by decide +kernel
theorem d_L_drawn_390 : decode cL_drawn 390 = .ok (.istore 5, 2) := by decide +kernel
theorem d_L_drawn_392 : decode cL_drawn 392 = .ok (.iload 5, 2) := by decide +kernel
theorem d_L_drawn_394 : decode cL_drawn 394 = .ok (.bipush 6, 2) := by decide +kernel
theorem d_L_drawn_396 : decode cL_drawn 396 = .ok (.if_icmp .ge 187, 3) := by decide +kernel
theorem d_L_drawn_399 : decode cL_drawn 399 = .ok (.aload_n 0, 1) := by decide +kernel
theorem d_L_drawn_400 : decode cL_drawn 400 = .ok (.bipush 18, 2) := by decide +kernel
theorem d_L_drawn_402 : decode cL_drawn 402 = .ok (.iload 5, 2) := by decide +kernel
theorem d_L_drawn_404 : decode cL_drawn 404 = .ok (.iadd, 1) := by decide +kernel
theorem d_L_drawn_405 : decode cL_drawn 405 = .ok (.invokestatic 113, 3) := by decide +kernel
theorem d_L_drawn_408 : decode cL_drawn 408 = .ok (.iconst 1, 1) := by decide +kernel
theorem d_L_drawn_409 : decode cL_drawn 409 = .ok (.iushr, 1) := by decide +kernel
theorem d_L_drawn_410 : decode cL_drawn 410 = .ok (.istore 6, 2) := by decide +kernel
theorem d_L_drawn_412 : decode cL_drawn 412 = .ok (.aload_n 1, 1) := by decide +kernel
theorem d_L_drawn_413 : decode cL_drawn 413 = .ok (.iconst 2, 1) := by decide +kernel
theorem d_L_drawn_414 : decode cL_drawn 414 = .ok (.invokevirtual 109, 3) := by decide +kernel
theorem d_L_drawn_417 : decode cL_drawn 417 = .ok (.ifCond .le 71, 3) := by decide +kernel
theorem d_L_drawn_420 : decode cL_drawn 420 = .ok (.aload_n 1, 1) := by decide +kernel
theorem d_L_drawn_421 : decode cL_drawn 421 = .ok (.iconst 3, 1) := by decide +kernel
theorem d_L_drawn_422 : decode cL_drawn 422 = .ok (.invokevirtual 109, 3) := by decide +kernel
theorem d_L_drawn_425 : decode cL_drawn 425 = .ok (.ifCond .le 63, 3) := by decide +kernel
theorem d_L_drawn_428 : decode cL_drawn 428 = .ok (.iload 6, 2) := by decide +kernel
theorem d_L_drawn_430 : decode cL_drawn 430 = .ok (.iconst 2, 1) := by decide +kernel
theorem d_L_drawn_431 : decode cL_drawn 431 = .ok (.irem, 1) := by decide +kernel
theorem d_L_drawn_432 : decode cL_drawn 432 = .ok (.ifCond .ne 56, 3) := by decide +kernel
theorem d_L_drawn_435 : decode cL_drawn 435 = .ok (.aload_n 1, 1) := by decide +kernel
theorem d_L_drawn_436 : decode cL_drawn 436 = .ok (.iload 6, 2) := by decide +kernel
theorem d_L_drawn_438 : decode cL_drawn 438 = .ok (.iconst 2, 1) := by decide +kernel
theorem d_L_drawn_439 : decode cL_drawn 439 = .ok (.iushr, 1) := by decide +kernel
theorem d_L_drawn_440 : decode cL_drawn 440 = .ok (.aload_n 1, 1) := by decide +kernel
theorem d_L_drawn_441 : decode cL_drawn 441 = .ok (.iconst 2, 1) := by decide +kernel
theorem d_L_drawn_442 : decode cL_drawn 442 = .ok (.invokevirtual 109, 3) := by decide +kernel
theorem d_L_drawn_445 : decode cL_drawn 445 = .ok (.irem, 1) := by decide +kernel
theorem d_L_drawn_446 : decode cL_drawn 446 = .ok (.iload 6, 2) := by decide +kernel
theorem d_L_drawn_448 : decode cL_drawn 448 = .ok (.iconst 5, 1) := by decide +kernel
theorem d_L_drawn_449 : decode cL_drawn 449 = .ok (.iushr, 1) := by decide +kernel
theorem d_L_drawn_450 : decode cL_drawn 450 = .ok (.aload_n 1, 1) := by decide +kernel
theorem d_L_drawn_451 : decode cL_drawn 451 = .ok (.iconst 3, 1) := by decide +kernel
theorem d_L_drawn_452 : decode cL_drawn 452 = .ok (.invokevirtual 109, 3) := by decide +kernel
theorem d_L_drawn_455 : decode cL_drawn 455 = .ok (.irem, 1) := by decide +kernel
theorem d_L_drawn_456 : decode cL_drawn 456 = .ok (.invokestatic 156, 3) := by decide +kernel
theorem d_L_drawn_459 : decode cL_drawn 459 = .ok (.istore 7, 2) := by decide +kernel
theorem d_L_drawn_461 : decode cL_drawn 461 = .ok (.iload 7, 2) := by decide +kernel
theorem d_L_drawn_463 : decode cL_drawn 463 = .ok (.ifCond .ge 25, 3) := by decide +kernel
theorem d_L_drawn_466 : decode cL_drawn 466 = .ok (.aload_n 1, 1) := by decide +kernel
theorem d_L_drawn_467 : decode cL_drawn 467 = .ok (.iconst 0, 1) := by decide +kernel
theorem d_L_drawn_468 : decode cL_drawn 468 = .ok (.invokestatic 150, 3) := by decide +kernel
theorem d_L_drawn_471 : decode cL_drawn 471 = .ok (.bipush 7, 2) := by decide +kernel
theorem d_L_drawn_473 : decode cL_drawn 473 = .ok (.if_icmp .eq 15, 3) := by decide +kernel
theorem d_L_drawn_476 : decode cL_drawn 476 = .ok (.aload_n 1, 1) := by decide +kernel
theorem d_L_drawn_477 : decode cL_drawn 477 = .ok (.iconst 0, 1) := by decide +kernel
theorem d_L_drawn_478 : decode cL_drawn 478 = .ok (.invokestatic 150, 3) := by decide +kernel
theorem d_L_drawn_481 : decode cL_drawn 481 = .ok (.bipush 8, 2) := by decide +kernel
theorem d_L_drawn_483 : decode cL_drawn 483 = .ok (.if_icmp .eq 5, 3) := by decide +kernel
theorem d_L_drawn_486 : decode cL_drawn 486 = .ok (.aconst_null, 1) := by decide +kernel
theorem d_L_drawn_487 : decode cL_drawn 487 = .ok (.areturn, 1) := by decide +kernel
theorem d_L_drawn_488 : decode cL_drawn 488 = .ok (.aload_n 1, 1) := by decide +kernel
theorem d_L_drawn_489 : decode cL_drawn 489 = .ok (.iconst 2, 1) := by decide +kernel
theorem d_L_drawn_490 : decode cL_drawn 490 = .ok (.invokevirtual 109, 3) := by decide +kernel
theorem d_L_drawn_493 : decode cL_drawn 493 = .ok (.ifCond .le 56, 3) := by decide +kernel
theorem d_L_drawn_496 : decode cL_drawn 496 = .ok (.aload_n 1, 1) := by decide +kernel
theorem d_L_drawn_497 : decode cL_drawn 497 = .ok (.iload 6, 2) := by decide +kernel
theorem d_L_drawn_499 : decode cL_drawn 499 = .ok (.bipush 8, 2) := by decide +kernel
theorem d_L_drawn_501 : decode cL_drawn 501 = .ok (.iushr, 1) := by decide +kernel
theorem d_L_drawn_502 : decode cL_drawn 502 = .ok (.aload_n 1, 1) := by decide +kernel
theorem d_L_drawn_503 : decode cL_drawn 503 = .ok (.iconst 2, 1) := by decide +kernel
theorem d_L_drawn_504 : decode cL_drawn 504 = .ok (.invokevirtual 109, 3) := by decide +kernel
theorem d_L_drawn_507 : decode cL_drawn 507 = .ok (.irem, 1) := by decide +kernel
theorem d_L_drawn_508 : decode cL_drawn 508 = .ok (.iload 6, 2) := by decide +kernel
theorem d_L_drawn_510 : decode cL_drawn 510 = .ok (.bipush 11, 2) := by decide +kernel
theorem d_L_drawn_512 : decode cL_drawn 512 = .ok (.iushr, 1) := by decide +kernel
theorem d_L_drawn_513 : decode cL_drawn 513 = .ok (.aload_n 1, 1) := by decide +kernel
theorem d_L_drawn_514 : decode cL_drawn 514 = .ok (.invokestatic 145, 3) := by decide +kernel
theorem d_L_drawn_517 : decode cL_drawn 517 = .ok (.irem, 1) := by decide +kernel
theorem d_L_drawn_518 : decode cL_drawn 518 = .ok (.invokestatic 158, 3) := by decide +kernel
theorem d_L_drawn_521 : decode cL_drawn 521 = .ok (.istore 7, 2) := by decide +kernel
theorem d_L_drawn_523 : decode cL_drawn 523 = .ok (.iload 7, 2) := by decide +kernel
theorem d_L_drawn_525 : decode cL_drawn 525 = .ok (.ifCond .ge 24, 3) := by decide +kernel
theorem d_L_drawn_528 : decode cL_drawn 528 = .ok (.aload_n 1, 1) := by decide +kernel
theorem d_L_drawn_529 : decode cL_drawn 529 = .ok (.iconst 0, 1) := by decide +kernel
theorem d_L_drawn_530 : decode cL_drawn 530 = .ok (.invokestatic 150, 3) := by decide +kernel
theorem d_L_drawn_533 : decode cL_drawn 533 = .ok (.iconst 1, 1) := by decide +kernel
theorem d_L_drawn_534 : decode cL_drawn 534 = .ok (.if_icmp .eq 13, 3) := by decide +kernel
theorem d_L_drawn_537 : decode cL_drawn 537 = .ok (.aload_n 1, 1) := by decide +kernel
theorem d_L_drawn_538 : decode cL_drawn 538 = .ok (.iconst 0, 1) := by decide +kernel
theorem d_L_drawn_539 : decode cL_drawn 539 = .ok (.invokestatic 150, 3) := by decide +kernel
theorem d_L_drawn_542 : decode cL_drawn 542 = .ok (.bipush 11, 2) := by decide +kernel
theorem d_L_drawn_544 : decode cL_drawn 544 = .ok (.if_icmp .le 5, 3) := by decide +kernel
theorem d_L_drawn_547 : decode cL_drawn 547 = .ok (.aconst_null, 1) := by decide +kernel
theorem d_L_drawn_548 : decode cL_drawn 548 = .ok (.areturn, 1) := by decide +kernel
theorem d_L_drawn_549 : decode cL_drawn 549 = .ok (.iload 6, 2) := by decide +kernel
theorem d_L_drawn_551 : decode cL_drawn 551 = .ok (.bipush 17, 2) := by decide +kernel
theorem d_L_drawn_553 : decode cL_drawn 553 = .ok (.iushr, 1) := by decide +kernel
theorem d_L_drawn_554 : decode cL_drawn 554 = .ok (.iconst 3, 1) := by decide +kernel
theorem d_L_drawn_555 : decode cL_drawn 555 = .ok (.irem, 1) := by decide +kernel
theorem d_L_drawn_556 : decode cL_drawn 556 = .ok (.ifCond .ne 21, 3) := by decide +kernel
theorem d_L_drawn_559 : decode cL_drawn 559 = .ok (.aload_n 1, 1) := by decide +kernel
theorem d_L_drawn_560 : decode cL_drawn 560 = .ok (.iconst 1, 1) := by decide +kernel
theorem d_L_drawn_561 : decode cL_drawn 561 = .ok (.iload 6, 2) := by decide +kernel
theorem d_L_drawn_563 : decode cL_drawn 563 = .ok (.bipush 20, 2) := by decide +kernel
theorem d_L_drawn_565 : decode cL_drawn 565 = .ok (.iushr, 1) := by decide +kernel
theorem d_L_drawn_566 : decode cL_drawn 566 = .ok (.iconst 4, 1) := by decide +kernel
theorem d_L_drawn_567 : decode cL_drawn 567 = .ok (.irem, 1) := by decide +kernel
theorem d_L_drawn_568 : decode cL_drawn 568 = .ok (.iadd, 1) := by decide +kernel
theorem d_L_drawn_569 : decode cL_drawn 569 = .ok (.invokestatic 160, 3) := by decide +kernel
theorem d_L_drawn_572 : decode cL_drawn 572 = .ok (.ifCond .ge 5, 3) := by decide +kernel
theorem d_L_drawn_575 : decode cL_drawn 575 = .ok (.aconst_null, 1) := by decide +kernel
theorem d_L_drawn_576 : decode cL_drawn 576 = .ok (.areturn, 1) := by decide +kernel
theorem d_L_drawn_577 : decode cL_drawn 577 = .ok (.iinc 5 1, 3) := by decide +kernel
theorem d_L_drawn_580 : decode cL_drawn 580 = .ok (.goto (-188), 3) := by decide +kernel
theorem d_L_drawn_583 : decode cL_drawn 583 = .ok (.aload_n 1, 1) := by decide +kernel
theorem d_L_drawn_584 : decode cL_drawn 584 = .ok (.areturn, 1) := by decide +kernel
theorem d_L_plans_0 : decode cL_plans 0 = .ok (.iconst 0, 1) := by decide +kernel
theorem d_L_plans_1 : decode cL_plans 1 = .ok (.istore_n 1, 1) := by decide +kernel
theorem d_L_plans_2 : decode cL_plans 2 = .ok (.iload_n 1, 1) := by decide +kernel
theorem d_L_plans_3 : decode cL_plans 3 = .ok (.bipush 33, 2) := by decide +kernel
theorem d_L_plans_5 : decode cL_plans 5 = .ok (.if_icmp .ge 135, 3) := by decide +kernel
theorem d_L_plans_8 : decode cL_plans 8 = .ok (.iconst 0, 1) := by decide +kernel
theorem d_L_plans_9 : decode cL_plans 9 = .ok (.istore_n 2, 1) := by decide +kernel
theorem d_L_plans_10 : decode cL_plans 10 = .ok (.iload_n 2, 1) := by decide +kernel
theorem d_L_plans_11 : decode cL_plans 11 = .ok (.aload_n 0, 1) := by decide +kernel
theorem d_L_plans_12 : decode cL_plans 12 = .ok (.iconst 2, 1) := by decide +kernel
theorem d_L_plans_13 : decode cL_plans 13 = .ok (.invokevirtual 109, 3) := by decide +kernel
theorem d_L_plans_16 : decode cL_plans 16 = .ok (.if_icmp .ge 118, 3) := by decide +kernel
theorem d_L_plans_19 : decode cL_plans 19 = .ok (.aload_n 0, 1) := by decide +kernel
theorem d_L_plans_20 : decode cL_plans 20 = .ok (.iload_n 2, 1) := by decide +kernel
theorem d_L_plans_21 : decode cL_plans 21 = .ok (.iload_n 1, 1) := by decide +kernel
theorem d_L_plans_22 : decode cL_plans 22 = .ok (.invokevirtual 193, 3) := by decide +kernel
theorem d_L_plans_25 : decode cL_plans 25 = .ok (.istore_n 3, 1) := by decide +kernel
theorem d_L_plans_26 : decode cL_plans 26 = .ok (.aload_n 0, 1) := by decide +kernel
theorem d_L_plans_27 : decode cL_plans 27 = .ok (.iload_n 2, 1) := by decide +kernel
theorem d_L_plans_28 : decode cL_plans 28 = .ok (.iload_n 1, 1) := by decide +kernel
theorem d_L_plans_29 : decode cL_plans 29 = .ok (.iconst 1, 1) := by decide +kernel
theorem d_L_plans_30 : decode cL_plans 30 = .ok (.iadd, 1) := by decide +kernel
theorem d_L_plans_31 : decode cL_plans 31 = .ok (.invokevirtual 193, 3) := by decide +kernel
theorem d_L_plans_34 : decode cL_plans 34 = .ok (.istore 4, 2) := by decide +kernel
theorem d_L_plans_36 : decode cL_plans 36 = .ok (.aload_n 0, 1) := by decide +kernel
theorem d_L_plans_37 : decode cL_plans 37 = .ok (.iload_n 3, 1) := by decide +kernel
theorem d_L_plans_38 : decode cL_plans 38 = .ok (.iconst 1, 1) := by decide +kernel
theorem d_L_plans_39 : decode cL_plans 39 = .ok (.invokevirtual 196, 3) := by decide +kernel
theorem d_L_plans_42 : decode cL_plans 42 = .ok (.iconst 1, 1) := by decide +kernel
theorem d_L_plans_43 : decode cL_plans 43 = .ok (.if_icmp .ne 30, 3) := by decide +kernel
theorem d_L_plans_46 : decode cL_plans 46 = .ok (.aload_n 0, 1) := by decide +kernel
theorem d_L_plans_47 : decode cL_plans 47 = .ok (.iload_n 3, 1) := by decide +kernel
theorem d_L_plans_48 : decode cL_plans 48 = .ok (.iload_n 1, 1) := by decide +kernel
theorem d_L_plans_49 : decode cL_plans 49 = .ok (.invokevirtual 198, 3) := by decide +kernel
theorem d_L_plans_52 : decode cL_plans 52 = .ok (.iload_n 2, 1) := by decide +kernel
theorem d_L_plans_53 : decode cL_plans 53 = .ok (.if_icmp .ne 20, 3) := by decide +kernel
theorem d_L_plans_56 : decode cL_plans 56 = .ok (.iload_n 3, 1) := by decide +kernel
theorem d_L_plans_57 : decode cL_plans 57 = .ok (.iload 4, 2) := by decide +kernel
theorem d_L_plans_59 : decode cL_plans 59 = .ok (.if_icmp .eq 16, 3) := by decide +kernel
theorem d_L_plans_62 : decode cL_plans 62 = .ok (.aload_n 0, 1) := by decide +kernel
theorem d_L_plans_63 : decode cL_plans 63 = .ok (.iload_n 3, 1) := by decide +kernel
theorem d_L_plans_64 : decode cL_plans 64 = .ok (.iload 4, 2) := by decide +kernel
theorem d_L_plans_66 : decode cL_plans 66 = .ok (.invokestatic 201, 3) := by decide +kernel
theorem d_L_plans_69 : decode cL_plans 69 = .ok (.iconst 1, 1) := by decide +kernel
theorem d_L_plans_70 : decode cL_plans 70 = .ok (.if_icmp .eq 5, 3) := by decide +kernel
theorem d_L_plans_73 : decode cL_plans 73 = .ok (.iconst 0, 1) := by decide +kernel
theorem d_L_plans_74 : decode cL_plans 74 = .ok (.ireturn, 1) := by decide +kernel
theorem d_L_plans_75 : decode cL_plans 75 = .ok (.iconst 0, 1) := by decide +kernel
theorem d_L_plans_76 : decode cL_plans 76 = .ok (.istore 5, 2) := by decide +kernel
theorem d_L_plans_78 : decode cL_plans 78 = .ok (.iload 5, 2) := by decide +kernel
theorem d_L_plans_80 : decode cL_plans 80 = .ok (.iload_n 2, 1) := by decide +kernel
theorem d_L_plans_81 : decode cL_plans 81 = .ok (.if_icmp .ge 47, 3) := by decide +kernel
theorem d_L_plans_84 : decode cL_plans 84 = .ok (.aload_n 0, 1) := by decide +kernel
theorem d_L_plans_85 : decode cL_plans 85 = .ok (.iload 5, 2) := by decide +kernel
theorem d_L_plans_87 : decode cL_plans 87 = .ok (.iload_n 1, 1) := by decide +kernel
theorem d_L_plans_88 : decode cL_plans 88 = .ok (.invokevirtual 193, 3) := by decide +kernel
theorem d_L_plans_91 : decode cL_plans 91 = .ok (.iload_n 3, 1) := by decide +kernel
theorem d_L_plans_92 : decode cL_plans 92 = .ok (.if_icmp .eq 28, 3) := by decide +kernel
theorem d_L_plans_95 : decode cL_plans 95 = .ok (.aload_n 0, 1) := by decide +kernel
theorem d_L_plans_96 : decode cL_plans 96 = .ok (.iload 5, 2) := by decide +kernel
theorem d_L_plans_98 : decode cL_plans 98 = .ok (.iload_n 1, 1) := by decide +kernel
theorem d_L_plans_99 : decode cL_plans 99 = .ok (.invokevirtual 193, 3) := by decide +kernel
theorem d_L_plans_102 : decode cL_plans 102 = .ok (.iload 4, 2) := by decide +kernel
theorem d_L_plans_104 : decode cL_plans 104 = .ok (.if_icmp .ne 18, 3) := by decide +kernel
theorem d_L_plans_107 : decode cL_plans 107 = .ok (.aload_n 0, 1) := by decide +kernel
theorem d_L_plans_108 : decode cL_plans 108 = .ok (.iload 5, 2) := by decide +kernel
theorem d_L_plans_110 : decode cL_plans 110 = .ok (.iload_n 1, 1) := by decide +kernel
theorem d_L_plans_111 : decode cL_plans 111 = .ok (.iconst 1, 1) := by decide +kernel
theorem d_L_plans_112 : decode cL_plans 112 = .ok (.iadd, 1) := by decide +kernel
theorem d_L_plans_113 : decode cL_plans 113 = .ok (.invokevirtual 193, 3) := by decide +kernel
theorem d_L_plans_116 : decode cL_plans 116 = .ok (.iload_n 3, 1) := by decide +kernel
theorem d_L_plans_117 : decode cL_plans 117 = .ok (.if_icmp .ne 5, 3) := by decide +kernel
theorem d_L_plans_120 : decode cL_plans 120 = .ok (.iconst 0, 1) := by decide +kernel
theorem d_L_plans_121 : decode cL_plans 121 = .ok (.ireturn, 1) := by decide +kernel
theorem d_L_plans_122 : decode cL_plans 122 = .ok (.iinc 5 1, 3) := by decide +kernel
theorem d_L_plans_125 : decode cL_plans 125 = .ok (.goto (-47), 3) := by decide +kernel
theorem d_L_plans_128 : decode cL_plans 128 = .ok (.iinc 2 1, 3) := by decide +kernel
theorem d_L_plans_131 : decode cL_plans 131 = .ok (.goto (-121), 3) := by decide +kernel
theorem d_L_plans_134 : decode cL_plans 134 = .ok (.iinc 1 1, 3) := by decide +kernel
theorem d_L_plans_137 : decode cL_plans 137 = .ok (.goto (-135), 3) := by decide +kernel
theorem d_L_plans_140 : decode cL_plans 140 = .ok (.iconst 0, 1) := by decide +kernel
theorem d_L_plans_141 : decode cL_plans 141 = .ok (.istore_n 1, 1) := by decide +kernel
theorem d_L_plans_142 : decode cL_plans 142 = .ok (.iload_n 1, 1) := by decide +kernel
theorem d_L_plans_143 : decode cL_plans 143 = .ok (.aload_n 0, 1) := by decide +kernel
theorem d_L_plans_144 : decode cL_plans 144 = .ok (.iconst 2, 1) := by decide +kernel
theorem d_L_plans_145 : decode cL_plans 145 = .ok (.invokevirtual 109, 3) := by decide +kernel
theorem d_L_plans_148 : decode cL_plans 148 = .ok (.if_icmp .ge 140, 3) := by decide +kernel
theorem d_L_plans_151 : decode cL_plans 151 = .ok (.aload_n 0, 1) := by decide +kernel
theorem d_L_plans_152 : decode cL_plans 152 = .ok (.iload_n 1, 1) := by decide +kernel
theorem d_L_plans_153 : decode cL_plans 153 = .ok (.iconst 3, 1) := by decide +kernel
theorem d_L_plans_154 : decode cL_plans 154 = .ok (.invokevirtual 203, 3) := by decide +kernel
theorem d_L_plans_157 : decode cL_plans 157 = .ok (.istore_n 2, 1) := by decide +kernel
theorem d_L_plans_158 : decode cL_plans 158 = .ok (.aload_n 0, 1) := by decide +kernel
theorem d_L_plans_159 : decode cL_plans 159 = .ok (.iload_n 1, 1) := by decide +kernel
theorem d_L_plans_160 : decode cL_plans 160 = .ok (.iconst 4, 1) := by decide +kernel
theorem d_L_plans_161 : decode cL_plans 161 = .ok (.invokevirtual 203, 3) := by decide +kernel
theorem d_L_plans_164 : decode cL_plans 164 = .ok (.istore_n 3, 1) := by decide +kernel
theorem d_L_plans_165 : decode cL_plans 165 = .ok (.iload_n 2, 1) := by decide +kernel
theorem d_L_plans_166 : decode cL_plans 166 = .ok (.ifCond .ne 32, 3) := by decide +kernel
theorem d_L_plans_169 : decode cL_plans 169 = .ok (.iload_n 3, 1) := by decide +kernel
theorem d_L_plans_170 : decode cL_plans 170 = .ok (.iconst (-1), 1) := by decide +kernel
theorem d_L_plans_171 : decode cL_plans 171 = .ok (.if_icmp .ne 23, 3) := by decide +kernel
theorem d_L_plans_174 : decode cL_plans 174 = .ok (.aload_n 0, 1) := by decide +kernel
theorem d_L_plans_175 : decode cL_plans 175 = .ok (.iload_n 1, 1) := by decide +kernel
theorem d_L_plans_176 : decode cL_plans 176 = .ok (.bipush 7, 2) := by decide +kernel
theorem d_L_plans_178 : decode cL_plans 178 = .ok (.invokevirtual 193, 3) := by decide +kernel
theorem d_L_plans_181 : decode cL_plans 181 = .ok (.aload_n 0, 1) := by decide +kernel
theorem d_L_plans_182 : decode cL_plans 182 = .ok (.iload_n 1, 1) := by decide +kernel
theorem d_L_plans_183 : decode cL_plans 183 = .ok (.iconst 0, 1) := by decide +kernel
theorem d_L_plans_184 : decode cL_plans 184 = .ok (.invokevirtual 203, 3) := by decide +kernel
theorem d_L_plans_187 : decode cL_plans 187 = .ok (.if_icmp .ne 7, 3) := by decide +kernel
theorem d_L_plans_190 : decode cL_plans 190 = .ok (.iconst 1, 1) := by decide +kernel
theorem d_L_plans_191 : decode cL_plans 191 = .ok (.goto 47, 3) := by decide +kernel
theorem d_L_plans_194 : decode cL_plans 194 = .ok (.iconst 0, 1) := by decide +kernel
theorem d_L_plans_195 : decode cL_plans 195 = .ok (.goto 43, 3) := by decide +kernel
theorem d_L_plans_198 : decode cL_plans 198 = .ok (.aload_n 0, 1) := by decide +kernel
theorem d_L_plans_199 : decode cL_plans 199 = .ok (.iload_n 1, 1) := by decide +kernel
theorem d_L_plans_200 : decode cL_plans 200 = .ok (.iload_n 2, 1) := by decide +kernel
theorem d_L_plans_201 : decode cL_plans 201 = .ok (.invokevirtual 193, 3) := by decide +kernel
theorem d_L_plans_204 : decode cL_plans 204 = .ok (.iload_n 3, 1) := by decide +kernel
theorem d_L_plans_205 : decode cL_plans 205 = .ok (.if_icmp .ne 32, 3) := by decide +kernel
theorem d_L_plans_208 : decode cL_plans 208 = .ok (.aload_n 0, 1) := by decide +kernel
theorem d_L_plans_209 : decode cL_plans 209 = .ok (.iload_n 1, 1) := by decide +kernel
theorem d_L_plans_210 : decode cL_plans 210 = .ok (.iload_n 2, 1) := by decide +kernel
theorem d_L_plans_211 : decode cL_plans 211 = .ok (.bipush 9, 2) := by decide +kernel
theorem d_L_plans_213 : decode cL_plans 213 = .ok (.iadd, 1) := by decide +kernel
theorem d_L_plans_214 : decode cL_plans 214 = .ok (.invokevirtual 193, 3) := by decide +kernel
theorem d_L_plans_217 : decode cL_plans 217 = .ok (.iload_n 3, 1) := by decide +kernel
theorem d_L_plans_218 : decode cL_plans 218 = .ok (.if_icmp .ne 19, 3) := by decide +kernel
theorem d_L_plans_221 : decode cL_plans 221 = .ok (.aload_n 0, 1) := by decide +kernel
theorem d_L_plans_222 : decode cL_plans 222 = .ok (.iload_n 1, 1) := by decide +kernel
theorem d_L_plans_223 : decode cL_plans 223 = .ok (.iload_n 2, 1) := by decide +kernel
theorem d_L_plans_224 : decode cL_plans 224 = .ok (.iconst 1, 1) := by decide +kernel
theorem d_L_plans_225 : decode cL_plans 225 = .ok (.isub, 1) := by decide +kernel
theorem d_L_plans_226 : decode cL_plans 226 = .ok (.invokevirtual 193, 3) := by decide +kernel
theorem d_L_plans_229 : decode cL_plans 229 = .ok (.iload_n 3, 1) := by decide +kernel
theorem d_L_plans_230 : decode cL_plans 230 = .ok (.if_icmp .eq 7, 3) := by decide +kernel
theorem d_L_plans_233 : decode cL_plans 233 = .ok (.iconst 1, 1) := by decide +kernel
theorem d_L_plans_234 : decode cL_plans 234 = .ok (.goto 4, 3) := by decide +kernel
theorem d_L_plans_237 : decode cL_plans 237 = .ok (.iconst 0, 1) := by decide +kernel
theorem d_L_plans_238 : decode cL_plans 238 = .ok (.istore 4, 2) := by decide +kernel
theorem d_L_plans_240 : decode cL_plans 240 = .ok (.iload 4, 2) := by decide +kernel
theorem d_L_plans_242 : decode cL_plans 242 = .ok (.ifCond .eq 38, 3) := by decide +kernel
theorem d_L_plans_245 : decode cL_plans 245 = .ok (.aload_n 0, 1) := by decide +kernel
theorem d_L_plans_246 : decode cL_plans 246 = .ok (.iload_n 1, 1) := by decide +kernel
theorem d_L_plans_247 : decode cL_plans 247 = .ok (.iconst 0, 1) := by decide +kernel
theorem d_L_plans_248 : decode cL_plans 248 = .ok (.invokevirtual 193, 3) := by decide +kernel
theorem d_L_plans_251 : decode cL_plans 251 = .ok (.aload_n 0, 1) := by decide +kernel
theorem d_L_plans_252 : decode cL_plans 252 = .ok (.iload_n 1, 1) := by decide +kernel
theorem d_L_plans_253 : decode cL_plans 253 = .ok (.iconst 0, 1) := by decide +kernel
theorem d_L_plans_254 : decode cL_plans 254 = .ok (.invokevirtual 203, 3) := by decide +kernel
theorem d_L_plans_257 : decode cL_plans 257 = .ok (.if_icmp .ne 23, 3) := by decide +kernel
theorem d_L_plans_260 : decode cL_plans 260 = .ok (.aload_n 0, 1) := by decide +kernel
theorem d_L_plans_261 : decode cL_plans 261 = .ok (.iload_n 1, 1) := by decide +kernel
theorem d_L_plans_262 : decode cL_plans 262 = .ok (.iconst 1, 1) := by decide +kernel
theorem d_L_plans_263 : decode cL_plans 263 = .ok (.invokevirtual 203, 3) := by decide +kernel
theorem d_L_plans_266 : decode cL_plans 266 = .ok (.ifCond .lt 14, 3) := by decide +kernel
theorem d_L_plans_269 : decode cL_plans 269 = .ok (.aload_n 0, 1) := by decide +kernel
theorem d_L_plans_270 : decode cL_plans 270 = .ok (.iload_n 1, 1) := by decide +kernel
theorem d_L_plans_271 : decode cL_plans 271 = .ok (.iconst 1, 1) := by decide +kernel
theorem d_L_plans_272 : decode cL_plans 272 = .ok (.invokevirtual 203, 3) := by decide +kernel
theorem d_L_plans_275 : decode cL_plans 275 = .ok (.bipush 99, 2) := by decide +kernel
theorem d_L_plans_277 : decode cL_plans 277 = .ok (.if_icmp .le 5, 3) := by decide +kernel
theorem d_L_plans_280 : decode cL_plans 280 = .ok (.iconst 0, 1) := by decide +kernel
theorem d_L_plans_281 : decode cL_plans 281 = .ok (.ireturn, 1) := by decide +kernel
theorem d_L_plans_282 : decode cL_plans 282 = .ok (.iinc 1 1, 3) := by decide +kernel
theorem d_L_plans_285 : decode cL_plans 285 = .ok (.goto (-143), 3) := by decide +kernel
theorem d_L_plans_288 : decode cL_plans 288 = .ok (.iconst 1, 1) := by decide +kernel
theorem d_L_plans_289 : decode cL_plans 289 = .ok (.ireturn, 1) := by decide +kernel
theorem d_L_distances_0 : decode cL_distances 0 = .ok (.iconst 0, 1) := by decide +kernel
theorem d_L_distances_1 : decode cL_distances 1 = .ok (.istore_n 2, 1) := by decide +kernel
theorem d_L_distances_2 : decode cL_distances 2 = .ok (.iload_n 2, 1) := by decide +kernel
theorem d_L_distances_3 : decode cL_distances 3 = .ok (.iconst 5, 1) := by decide +kernel
theorem d_L_distances_4 : decode cL_distances 4 = .ok (.if_icmp .ge 231, 3) := by decide +kernel
theorem d_L_distances_7 : decode cL_distances 7 = .ok (.aload_n 0, 1) := by decide +kernel
theorem d_L_distances_8 : decode cL_distances 8 = .ok (.bipush 24, 2) := by decide +kernel
theorem d_L_distances_10 : decode cL_distances 10 = .ok (.iload_n 2, 1) := by decide +kernel
theorem d_L_distances_11 : decode cL_distances 11 = .ok (.iadd, 1) := by decide +kernel
theorem d_L_distances_12 : decode cL_distances 12 = .ok (.invokestatic 113, 3) := by decide +kernel
theorem d_L_distances_15 : decode cL_distances 15 = .ok (.iconst 1, 1) := by decide +kernel
theorem d_L_distances_16 : decode cL_distances 16 = .ok (.iushr, 1) := by decide +kernel
theorem d_L_distances_17 : decode cL_distances 17 = .ok (.istore_n 3, 1) := by decide +kernel
theorem d_L_distances_18 : decode cL_distances 18 = .ok (.iload_n 3, 1) := by decide +kernel
theorem d_L_distances_19 : decode cL_distances 19 = .ok (.aload_n 1, 1) := by decide +kernel
theorem d_L_distances_20 : decode cL_distances 20 = .ok (.invokestatic 145, 3) := by decide +kernel
theorem d_L_distances_23 : decode cL_distances 23 = .ok (.irem, 1) := by decide +kernel
theorem d_L_distances_24 : decode cL_distances 24 = .ok (.istore 4, 2) := by decide +kernel
theorem d_L_distances_26 : decode cL_distances 26 = .ok (.iconst 0, 1) := by decide +kernel
theorem d_L_distances_27 : decode cL_distances 27 = .ok (.istore 5, 2) := by decide +kernel
theorem d_L_distances_29 : decode cL_distances 29 = .ok (.iconst 0, 1) := by decide +kernel
theorem d_L_distances_30 : decode cL_distances 30 = .ok (.istore 6, 2) := by decide +kernel
theorem d_L_distances_32 : decode cL_distances 32 = .ok (.iload 4, 2) := by decide +kernel
theorem d_L_distances_34 : decode cL_distances 34 = .ok (.istore 7, 2) := by decide +kernel
theorem d_L_distances_36 : decode cL_distances 36 = .ok (.iconst 0, 1) := by decide +kernel
theorem d_L_distances_37 : decode cL_distances 37 = .ok (.istore 8, 2) := by decide +kernel
theorem d_L_distances_39 : decode cL_distances 39 = .ok (.iload 8, 2) := by decide +kernel
theorem d_L_distances_41 : decode cL_distances 41 = .ok (.aload_n 1, 1) := by decide +kernel
theorem d_L_distances_42 : decode cL_distances 42 = .ok (.invokestatic 145, 3) := by decide +kernel
theorem d_L_distances_45 : decode cL_distances 45 = .ok (.if_icmp .ge 150, 3) := by decide +kernel
theorem d_L_distances_48 : decode cL_distances 48 = .ok (.aload_n 1, 1) := by decide +kernel
theorem d_L_distances_49 : decode cL_distances 49 = .ok (.iload 4, 2) := by decide +kernel
theorem d_L_distances_51 : decode cL_distances 51 = .ok (.iload 8, 2) := by decide +kernel
theorem d_L_distances_53 : decode cL_distances 53 = .ok (.invokestatic 201, 3) := by decide +kernel
theorem d_L_distances_56 : decode cL_distances 56 = .ok (.istore 9, 2) := by decide +kernel
theorem d_L_distances_58 : decode cL_distances 58 = .ok (.iload 9, 2) := by decide +kernel
theorem d_L_distances_60 : decode cL_distances 60 = .ok (.aload_n 1, 1) := by decide +kernel
theorem d_L_distances_61 : decode cL_distances 61 = .ok (.iload 4, 2) := by decide +kernel
theorem d_L_distances_63 : decode cL_distances 63 = .ok (.iload 8, 2) := by decide +kernel
theorem d_L_distances_65 : decode cL_distances 65 = .ok (.invokestatic 206, 3) := by decide +kernel
theorem d_L_distances_68 : decode cL_distances 68 = .ok (.if_icmp .ne 79, 3) := by decide +kernel
theorem d_L_distances_71 : decode cL_distances 71 = .ok (.iload 4, 2) := by decide +kernel
theorem d_L_distances_73 : decode cL_distances 73 = .ok (.iload 8, 2) := by decide +kernel
theorem d_L_distances_75 : decode cL_distances 75 = .ok (.if_icmp .ne 7, 3) := by decide +kernel
theorem d_L_distances_78 : decode cL_distances 78 = .ok (.iconst 1, 1) := by decide +kernel
theorem d_L_distances_79 : decode cL_distances 79 = .ok (.goto 4, 3) := by decide +kernel
theorem d_L_distances_82 : decode cL_distances 82 = .ok (.iconst 0, 1) := by decide +kernel
theorem d_L_distances_83 : decode cL_distances 83 = .ok (.iload 9, 2) := by decide +kernel
theorem d_L_distances_85 : decode cL_distances 85 = .ok (.ifCond .ne 7, 3) := by decide +kernel
theorem d_L_distances_88 : decode cL_distances 88 = .ok (.iconst 1, 1) := by decide +kernel
theorem d_L_distances_89 : decode cL_distances 89 = .ok (.goto 4, 3) := by decide +kernel
theorem d_L_distances_92 : decode cL_distances 92 = .ok (.iconst 0, 1) := by decide +kernel
theorem d_L_distances_93 : decode cL_distances 93 = .ok (.if_icmp .ne 54, 3) := by decide +kernel
theorem d_L_distances_96 : decode cL_distances 96 = .ok (.iload 9, 2) := by decide +kernel
theorem d_L_distances_98 : decode cL_distances 98 = .ok (.ifCond .le 14, 3) := by decide +kernel
theorem d_L_distances_101 : decode cL_distances 101 = .ok (.aload_n 1, 1) := by decide +kernel
theorem d_L_distances_102 : decode cL_distances 102 = .ok (.iload 8, 2) := by decide +kernel
theorem d_L_distances_104 : decode cL_distances 104 = .ok (.iconst 1, 1) := by decide +kernel
theorem d_L_distances_105 : decode cL_distances 105 = .ok (.invokevirtual 196, 3) := by decide +kernel
theorem d_L_distances_108 : decode cL_distances 108 = .ok (.iconst 1, 1) := by decide +kernel
theorem d_L_distances_109 : decode cL_distances 109 = .ok (.if_icmp .ne 38, 3) := by decide +kernel
theorem d_L_distances_112 : decode cL_distances 112 = .ok (.aload_n 1, 1) := by decide +kernel
theorem d_L_distances_113 : decode cL_distances 113 = .ok (.iload 4, 2) := by decide +kernel
theorem d_L_distances_115 : decode cL_distances 115 = .ok (.iconst 1, 1) := by decide +kernel
theorem d_L_distances_116 : decode cL_distances 116 = .ok (.invokevirtual 196, 3) := by decide +kernel
theorem d_L_distances_119 : decode cL_distances 119 = .ok (.iconst 1, 1) := by decide +kernel
theorem d_L_distances_120 : decode cL_distances 120 = .ok (.if_icmp .ne 29, 3) := by decide +kernel
theorem d_L_distances_123 : decode cL_distances 123 = .ok (.aload_n 1, 1) := by decide +kernel
theorem d_L_distances_124 : decode cL_distances 124 = .ok (.iload 8, 2) := by decide +kernel
theorem d_L_distances_126 : decode cL_distances 126 = .ok (.iconst 1, 1) := by decide +kernel
theorem d_L_distances_127 : decode cL_distances 127 = .ok (.invokevirtual 196, 3) := by decide +kernel
theorem d_L_distances_130 : decode cL_distances 130 = .ok (.iconst 1, 1) := by decide +kernel
theorem d_L_distances_131 : decode cL_distances 131 = .ok (.if_icmp .ne 18, 3) := by decide +kernel
theorem d_L_distances_134 : decode cL_distances 134 = .ok (.iload 9, 2) := by decide +kernel
theorem d_L_distances_136 : decode cL_distances 136 = .ok (.aload_n 1, 1) := by decide +kernel
theorem d_L_distances_137 : decode cL_distances 137 = .ok (.iload 8, 2) := by decide +kernel
theorem d_L_distances_139 : decode cL_distances 139 = .ok (.iload 4, 2) := by decide +kernel
theorem d_L_distances_141 : decode cL_distances 141 = .ok (.invokestatic 201, 3) := by decide +kernel
theorem d_L_distances_144 : decode cL_distances 144 = .ok (.if_icmp .eq 5, 3) := by decide +kernel
theorem d_L_distances_147 : decode cL_distances 147 = .ok (.iconst 0, 1) := by decide +kernel
theorem d_L_distances_148 : decode cL_distances 148 = .ok (.ireturn, 1) := by decide +kernel
theorem d_L_distances_149 : decode cL_distances 149 = .ok (.iload 5, 2) := by decide +kernel
theorem d_L_distances_151 : decode cL_distances 151 = .ok (.iload 9, 2) := by decide +kernel
theorem d_L_distances_153 : decode cL_distances 153 = .ok (.ifCond .lt 7, 3) := by decide +kernel
theorem d_L_distances_156 : decode cL_distances 156 = .ok (.iconst 1, 1) := by decide +kernel
theorem d_L_distances_157 : decode cL_distances 157 = .ok (.goto 4, 3) := by decide +kernel
theorem d_L_distances_160 : decode cL_distances 160 = .ok (.iconst 0, 1) := by decide +kernel
theorem d_L_distances_161 : decode cL_distances 161 = .ok (.iadd, 1) := by decide +kernel
theorem d_L_distances_162 : decode cL_distances 162 = .ok (.istore 5, 2) := by decide +kernel
theorem d_L_distances_164 : decode cL_distances 164 = .ok (.iload 9, 2) := by decide +kernel
theorem d_L_distances_166 : decode cL_distances 166 = .ok (.iload 6, 2) := by decide +kernel
theorem d_L_distances_168 : decode cL_distances 168 = .ok (.if_icmp .le 8, 3) := by decide +kernel
theorem d_L_distances_171 : decode cL_distances 171 = .ok (.iload 8, 2) := by decide +kernel
theorem d_L_distances_173 : decode cL_distances 173 = .ok (.goto 5, 3) := by decide +kernel
theorem d_L_distances_176 : decode cL_distances 176 = .ok (.iload 7, 2) := by decide +kernel
theorem d_L_distances_178 : decode cL_distances 178 = .ok (.istore 7, 2) := by decide +kernel
theorem d_L_distances_180 : decode cL_distances 180 = .ok (.iload 6, 2) := by decide +kernel
theorem d_L_distances_182 : decode cL_distances 182 = .ok (.iload 9, 2) := by decide +kernel
theorem d_L_distances_184 : decode cL_distances 184 = .ok (.invokestatic 208, 3) := by decide +kernel
theorem d_L_distances_187 : decode cL_distances 187 = .ok (.istore 6, 2) := by decide +kernel
theorem d_L_distances_189 : decode cL_distances 189 = .ok (.iinc 8 1, 3) := by decide +kernel
theorem d_L_distances_192 : decode cL_distances 192 = .ok (.goto (-153), 3) := by decide +kernel
theorem d_L_distances_195 : decode cL_distances 195 = .ok (.aload_n 1, 1) := by decide +kernel
theorem d_L_distances_196 : decode cL_distances 196 = .ok (.iload 4, 2) := by decide +kernel
theorem d_L_distances_198 : decode cL_distances 198 = .ok (.invokevirtual 213, 3) := by decide +kernel
theorem d_L_distances_201 : decode cL_distances 201 = .ok (.iload 5, 2) := by decide +kernel
theorem d_L_distances_203 : decode cL_distances 203 = .ok (.if_icmp .ne 24, 3) := by decide +kernel
theorem d_L_distances_206 : decode cL_distances 206 = .ok (.aload_n 1, 1) := by decide +kernel
theorem d_L_distances_207 : decode cL_distances 207 = .ok (.iload 4, 2) := by decide +kernel
theorem d_L_distances_209 : decode cL_distances 209 = .ok (.invokevirtual 216, 3) := by decide +kernel
theorem d_L_distances_212 : decode cL_distances 212 = .ok (.iload 6, 2) := by decide +kernel
theorem d_L_distances_214 : decode cL_distances 214 = .ok (.ifCond .ne 8, 3) := by decide +kernel
theorem d_L_distances_217 : decode cL_distances 217 = .ok (.iload 4, 2) := by decide +kernel
theorem d_L_distances_219 : decode cL_distances 219 = .ok (.goto 5, 3) := by decide +kernel
theorem d_L_distances_222 : decode cL_distances 222 = .ok (.iload 7, 2) := by decide +kernel
theorem d_L_distances_224 : decode cL_distances 224 = .ok (.if_icmp .eq 5, 3) := by decide +kernel
theorem d_L_distances_227 : decode cL_distances 227 = .ok (.iconst 0, 1) := by decide +kernel
theorem d_L_distances_228 : decode cL_distances 228 = .ok (.ireturn, 1) := by decide +kernel
theorem d_L_distances_229 : decode cL_distances 229 = .ok (.iinc 2 1, 3) := by decide +kernel
theorem d_L_distances_232 : decode cL_distances 232 = .ok (.goto (-230), 3) := by decide +kernel
theorem d_L_distances_235 : decode cL_distances 235 = .ok (.iconst 1, 1) := by decide +kernel
theorem d_L_distances_236 : decode cL_distances 236 = .ok (.ireturn, 1) := by decide +kernel
theorem d_L_arrivals_0 : decode cL_arrivals 0 = .ok (.iconst 0, 1) := by decide +kernel
theorem d_L_arrivals_1 : decode cL_arrivals 1 = .ok (.istore_n 2, 1) := by decide +kernel
theorem d_L_arrivals_2 : decode cL_arrivals 2 = .ok (.iload_n 2, 1) := by decide +kernel
theorem d_L_arrivals_3 : decode cL_arrivals 3 = .ok (.aload_n 1, 1) := by decide +kernel
theorem d_L_arrivals_4 : decode cL_arrivals 4 = .ok (.iconst 2, 1) := by decide +kernel
theorem d_L_arrivals_5 : decode cL_arrivals 5 = .ok (.invokevirtual 109, 3) := by decide +kernel
theorem d_L_arrivals_8 : decode cL_arrivals 8 = .ok (.if_icmp .ge 140, 3) := by decide +kernel
theorem d_L_arrivals_11 : decode cL_arrivals 11 = .ok (.iconst 0, 1) := by decide +kernel
theorem d_L_arrivals_12 : decode cL_arrivals 12 = .ok (.istore_n 3, 1) := by decide +kernel
theorem d_L_arrivals_13 : decode cL_arrivals 13 = .ok (.iload_n 3, 1) := by decide +kernel
theorem d_L_arrivals_14 : decode cL_arrivals 14 = .ok (.bipush 6, 2) := by decide +kernel
theorem d_L_arrivals_16 : decode cL_arrivals 16 = .ok (.if_icmp .ge 126, 3) := by decide +kernel
theorem d_L_arrivals_19 : decode cL_arrivals 19 = .ok (.aload_n 0, 1) := by decide +kernel
theorem d_L_arrivals_20 : decode cL_arrivals 20 = .ok (.bipush 29, 2) := by decide +kernel
theorem d_L_arrivals_22 : decode cL_arrivals 22 = .ok (.iload_n 3, 1) := by decide +kernel
theorem d_L_arrivals_23 : decode cL_arrivals 23 = .ok (.iadd, 1) := by decide +kernel
theorem d_L_arrivals_24 : decode cL_arrivals 24 = .ok (.invokestatic 113, 3) := by decide +kernel
theorem d_L_arrivals_27 : decode cL_arrivals 27 = .ok (.iconst 1, 1) := by decide +kernel
theorem d_L_arrivals_28 : decode cL_arrivals 28 = .ok (.iushr, 1) := by decide +kernel
theorem d_L_arrivals_29 : decode cL_arrivals 29 = .ok (.aload_n 1, 1) := by decide +kernel
theorem d_L_arrivals_30 : decode cL_arrivals 30 = .ok (.invokestatic 145, 3) := by decide +kernel
theorem d_L_arrivals_33 : decode cL_arrivals 33 = .ok (.irem, 1) := by decide +kernel
theorem d_L_arrivals_34 : decode cL_arrivals 34 = .ok (.istore 4, 2) := by decide +kernel
theorem d_L_arrivals_36 : decode cL_arrivals 36 = .ok (.aload_n 1, 1) := by decide +kernel
theorem d_L_arrivals_37 : decode cL_arrivals 37 = .ok (.iload_n 2, 1) := by decide +kernel
theorem d_L_arrivals_38 : decode cL_arrivals 38 = .ok (.iload 4, 2) := by decide +kernel
theorem d_L_arrivals_40 : decode cL_arrivals 40 = .ok (.invokestatic 219, 3) := by decide +kernel
theorem d_L_arrivals_43 : decode cL_arrivals 43 = .ok (.istore 5, 2) := by decide +kernel
theorem d_L_arrivals_45 : decode cL_arrivals 45 = .ok (.aload_n 1, 1) := by decide +kernel
theorem d_L_arrivals_46 : decode cL_arrivals 46 = .ok (.aload_n 1, 1) := by decide +kernel
theorem d_L_arrivals_47 : decode cL_arrivals 47 = .ok (.iload_n 2, 1) := by decide +kernel
theorem d_L_arrivals_48 : decode cL_arrivals 48 = .ok (.iconst 0, 1) := by decide +kernel
theorem d_L_arrivals_49 : decode cL_arrivals 49 = .ok (.invokevirtual 203, 3) := by decide +kernel
theorem d_L_arrivals_52 : decode cL_arrivals 52 = .ok (.iload 4, 2) := by decide +kernel
theorem d_L_arrivals_54 : decode cL_arrivals 54 = .ok (.invokestatic 201, 3) := by decide +kernel
theorem d_L_arrivals_57 : decode cL_arrivals 57 = .ok (.istore 6, 2) := by decide +kernel
theorem d_L_arrivals_59 : decode cL_arrivals 59 = .ok (.iload 5, 2) := by decide +kernel
theorem d_L_arrivals_61 : decode cL_arrivals 61 = .ok (.aload_n 1, 1) := by decide +kernel
theorem d_L_arrivals_62 : decode cL_arrivals 62 = .ok (.iload_n 2, 1) := by decide +kernel
theorem d_L_arrivals_63 : decode cL_arrivals 63 = .ok (.iload 4, 2) := by decide +kernel
theorem d_L_arrivals_65 : decode cL_arrivals 65 = .ok (.invokestatic 221, 3) := by decide +kernel
theorem d_L_arrivals_68 : decode cL_arrivals 68 = .ok (.if_icmp .ne 66, 3) := by decide +kernel
theorem d_L_arrivals_71 : decode cL_arrivals 71 = .ok (.iload 5, 2) := by decide +kernel
theorem d_L_arrivals_73 : decode cL_arrivals 73 = .ok (.ifCond .lt 26, 3) := by decide +kernel
theorem d_L_arrivals_76 : decode cL_arrivals 76 = .ok (.iload 6, 2) := by decide +kernel
theorem d_L_arrivals_78 : decode cL_arrivals 78 = .ok (.ifCond .lt 56, 3) := by decide +kernel
theorem d_L_arrivals_81 : decode cL_arrivals 81 = .ok (.iload 5, 2) := by decide +kernel
theorem d_L_arrivals_83 : decode cL_arrivals 83 = .ok (.iload 6, 2) := by decide +kernel
theorem d_L_arrivals_85 : decode cL_arrivals 85 = .ok (.if_icmp .lt 49, 3) := by decide +kernel
theorem d_L_arrivals_88 : decode cL_arrivals 88 = .ok (.iload 5, 2) := by decide +kernel
theorem d_L_arrivals_90 : decode cL_arrivals 90 = .ok (.aload_n 1, 1) := by decide +kernel
theorem d_L_arrivals_91 : decode cL_arrivals 91 = .ok (.bipush 16, 2) := by decide +kernel
theorem d_L_arrivals_93 : decode cL_arrivals 93 = .ok (.invokevirtual 109, 3) := by decide +kernel
theorem d_L_arrivals_96 : decode cL_arrivals 96 = .ok (.if_icmp .gt 38, 3) := by decide +kernel
theorem d_L_arrivals_99 : decode cL_arrivals 99 = .ok (.iload 5, 2) := by decide +kernel
theorem d_L_arrivals_101 : decode cL_arrivals 101 = .ok (.ifCond .ne 7, 3) := by decide +kernel
theorem d_L_arrivals_104 : decode cL_arrivals 104 = .ok (.iconst 1, 1) := by decide +kernel
theorem d_L_arrivals_105 : decode cL_arrivals 105 = .ok (.goto 4, 3) := by decide +kernel
theorem d_L_arrivals_108 : decode cL_arrivals 108 = .ok (.iconst 0, 1) := by decide +kernel
theorem d_L_arrivals_109 : decode cL_arrivals 109 = .ok (.iload 6, 2) := by decide +kernel
theorem d_L_arrivals_111 : decode cL_arrivals 111 = .ok (.ifCond .ne 7, 3) := by decide +kernel
theorem d_L_arrivals_114 : decode cL_arrivals 114 = .ok (.iconst 1, 1) := by decide +kernel
theorem d_L_arrivals_115 : decode cL_arrivals 115 = .ok (.goto 4, 3) := by decide +kernel
theorem d_L_arrivals_118 : decode cL_arrivals 118 = .ok (.iconst 0, 1) := by decide +kernel
theorem d_L_arrivals_119 : decode cL_arrivals 119 = .ok (.if_icmp .ne 15, 3) := by decide +kernel
theorem d_L_arrivals_122 : decode cL_arrivals 122 = .ok (.iload 6, 2) := by decide +kernel
theorem d_L_arrivals_124 : decode cL_arrivals 124 = .ok (.ifCond .ge 12, 3) := by decide +kernel
theorem d_L_arrivals_127 : decode cL_arrivals 127 = .ok (.iload 5, 2) := by decide +kernel
theorem d_L_arrivals_129 : decode cL_arrivals 129 = .ok (.bipush (-2), 2) := by decide +kernel
theorem d_L_arrivals_131 : decode cL_arrivals 131 = .ok (.if_icmp .eq 5, 3) := by decide +kernel
theorem d_L_arrivals_134 : decode cL_arrivals 134 = .ok (.iconst 0, 1) := by decide +kernel
theorem d_L_arrivals_135 : decode cL_arrivals 135 = .ok (.ireturn, 1) := by decide +kernel
theorem d_L_arrivals_136 : decode cL_arrivals 136 = .ok (.iinc 3 1, 3) := by decide +kernel
theorem d_L_arrivals_139 : decode cL_arrivals 139 = .ok (.goto (-126), 3) := by decide +kernel
theorem d_L_arrivals_142 : decode cL_arrivals 142 = .ok (.iinc 2 1, 3) := by decide +kernel
theorem d_L_arrivals_145 : decode cL_arrivals 145 = .ok (.goto (-143), 3) := by decide +kernel
theorem d_L_arrivals_148 : decode cL_arrivals 148 = .ok (.iconst 1, 1) := by decide +kernel
theorem d_L_arrivals_149 : decode cL_arrivals 149 = .ok (.ireturn, 1) := by decide +kernel
theorem d_L_orders_0 : decode cL_orders 0 = .ok (.aload_n 0, 1) := by decide +kernel
theorem d_L_orders_1 : decode cL_orders 1 = .ok (.iconst (-1), 1) := by decide +kernel
theorem d_L_orders_2 : decode cL_orders 2 = .ok (.invokestatic 223, 3) := by decide +kernel
theorem d_L_orders_5 : decode cL_orders 5 = .ok (.istore_n 1, 1) := by decide +kernel
theorem d_L_orders_6 : decode cL_orders 6 = .ok (.iconst 0, 1) := by decide +kernel
theorem d_L_orders_7 : decode cL_orders 7 = .ok (.istore_n 2, 1) := by decide +kernel
theorem d_L_orders_8 : decode cL_orders 8 = .ok (.iload_n 2, 1) := by decide +kernel
theorem d_L_orders_9 : decode cL_orders 9 = .ok (.iconst 1, 1) := by decide +kernel
theorem d_L_orders_10 : decode cL_orders 10 = .ok (.iadd, 1) := by decide +kernel
theorem d_L_orders_11 : decode cL_orders 11 = .ok (.iload_n 1, 1) := by decide +kernel
theorem d_L_orders_12 : decode cL_orders 12 = .ok (.if_icmp .ge 103, 3) := by decide +kernel
theorem d_L_orders_15 : decode cL_orders 15 = .ok (.aload_n 0, 1) := by decide +kernel
theorem d_L_orders_16 : decode cL_orders 16 = .ok (.iload_n 2, 1) := by decide +kernel
theorem d_L_orders_17 : decode cL_orders 17 = .ok (.invokestatic 223, 3) := by decide +kernel
theorem d_L_orders_20 : decode cL_orders 20 = .ok (.istore_n 3, 1) := by decide +kernel
theorem d_L_orders_21 : decode cL_orders 21 = .ok (.aload_n 0, 1) := by decide +kernel
theorem d_L_orders_22 : decode cL_orders 22 = .ok (.iload_n 2, 1) := by decide +kernel
theorem d_L_orders_23 : decode cL_orders 23 = .ok (.iconst 1, 1) := by decide +kernel
theorem d_L_orders_24 : decode cL_orders 24 = .ok (.iadd, 1) := by decide +kernel
theorem d_L_orders_25 : decode cL_orders 25 = .ok (.invokestatic 223, 3) := by decide +kernel
theorem d_L_orders_28 : decode cL_orders 28 = .ok (.istore 4, 2) := by decide +kernel
theorem d_L_orders_30 : decode cL_orders 30 = .ok (.aload_n 0, 1) := by decide +kernel
theorem d_L_orders_31 : decode cL_orders 31 = .ok (.iload_n 3, 1) := by decide +kernel
theorem d_L_orders_32 : decode cL_orders 32 = .ok (.iconst 0, 1) := by decide +kernel
theorem d_L_orders_33 : decode cL_orders 33 = .ok (.invokevirtual 225, 3) := by decide +kernel
theorem d_L_orders_36 : decode cL_orders 36 = .ok (.aload_n 0, 1) := by decide +kernel
theorem d_L_orders_37 : decode cL_orders 37 = .ok (.iload 4, 2) := by decide +kernel
theorem d_L_orders_39 : decode cL_orders 39 = .ok (.iconst 0, 1) := by decide +kernel
theorem d_L_orders_40 : decode cL_orders 40 = .ok (.invokevirtual 225, 3) := by decide +kernel
theorem d_L_orders_43 : decode cL_orders 43 = .ok (.if_icmp .eq 20, 3) := by decide +kernel
theorem d_L_orders_46 : decode cL_orders 46 = .ok (.aload_n 0, 1) := by decide +kernel
theorem d_L_orders_47 : decode cL_orders 47 = .ok (.iload 4, 2) := by decide +kernel
theorem d_L_orders_49 : decode cL_orders 49 = .ok (.iconst 0, 1) := by decide +kernel
theorem d_L_orders_50 : decode cL_orders 50 = .ok (.invokevirtual 225, 3) := by decide +kernel
theorem d_L_orders_53 : decode cL_orders 53 = .ok (.aload_n 0, 1) := by decide +kernel
theorem d_L_orders_54 : decode cL_orders 54 = .ok (.iload_n 3, 1) := by decide +kernel
theorem d_L_orders_55 : decode cL_orders 55 = .ok (.iconst 0, 1) := by decide +kernel
theorem d_L_orders_56 : decode cL_orders 56 = .ok (.invokevirtual 225, 3) := by decide +kernel
theorem d_L_orders_59 : decode cL_orders 59 = .ok (.isub, 1) := by decide +kernel
theorem d_L_orders_60 : decode cL_orders 60 = .ok (.goto 40, 3) := by decide +kernel
theorem d_L_orders_63 : decode cL_orders 63 = .ok (.aload_n 0, 1) := by decide +kernel
theorem d_L_orders_64 : decode cL_orders 64 = .ok (.iload_n 3, 1) := by decide +kernel
theorem d_L_orders_65 : decode cL_orders 65 = .ok (.iconst 1, 1) := by decide +kernel
theorem d_L_orders_66 : decode cL_orders 66 = .ok (.invokevirtual 225, 3) := by decide +kernel
theorem d_L_orders_69 : decode cL_orders 69 = .ok (.aload_n 0, 1) := by decide +kernel
theorem d_L_orders_70 : decode cL_orders 70 = .ok (.iload 4, 2) := by decide +kernel
theorem d_L_orders_72 : decode cL_orders 72 = .ok (.iconst 1, 1) := by decide +kernel
theorem d_L_orders_73 : decode cL_orders 73 = .ok (.invokevirtual 225, 3) := by decide +kernel
theorem d_L_orders_76 : decode cL_orders 76 = .ok (.if_icmp .eq 20, 3) := by decide +kernel
theorem d_L_orders_79 : decode cL_orders 79 = .ok (.aload_n 0, 1) := by decide +kernel
theorem d_L_orders_80 : decode cL_orders 80 = .ok (.iload_n 3, 1) := by decide +kernel
theorem d_L_orders_81 : decode cL_orders 81 = .ok (.iconst 1, 1) := by decide +kernel
theorem d_L_orders_82 : decode cL_orders 82 = .ok (.invokevirtual 225, 3) := by decide +kernel
theorem d_L_orders_85 : decode cL_orders 85 = .ok (.aload_n 0, 1) := by decide +kernel
theorem d_L_orders_86 : decode cL_orders 86 = .ok (.iload 4, 2) := by decide +kernel
theorem d_L_orders_88 : decode cL_orders 88 = .ok (.iconst 1, 1) := by decide +kernel
theorem d_L_orders_89 : decode cL_orders 89 = .ok (.invokevirtual 225, 3) := by decide +kernel
theorem d_L_orders_92 : decode cL_orders 92 = .ok (.isub, 1) := by decide +kernel
theorem d_L_orders_93 : decode cL_orders 93 = .ok (.goto 7, 3) := by decide +kernel
theorem d_L_orders_96 : decode cL_orders 96 = .ok (.iload 4, 2) := by decide +kernel
theorem d_L_orders_98 : decode cL_orders 98 = .ok (.iload_n 3, 1) := by decide +kernel
theorem d_L_orders_99 : decode cL_orders 99 = .ok (.isub, 1) := by decide +kernel
theorem d_L_orders_100 : decode cL_orders 100 = .ok (.istore 5, 2) := by decide +kernel
theorem d_L_orders_102 : decode cL_orders 102 = .ok (.iload 5, 2) := by decide +kernel
theorem d_L_orders_104 : decode cL_orders 104 = .ok (.ifCond .gt 5, 3) := by decide +kernel
theorem d_L_orders_107 : decode cL_orders 107 = .ok (.iconst 0, 1) := by decide +kernel
theorem d_L_orders_108 : decode cL_orders 108 = .ok (.ireturn, 1) := by decide +kernel
theorem d_L_orders_109 : decode cL_orders 109 = .ok (.iinc 2 1, 3) := by decide +kernel
theorem d_L_orders_112 : decode cL_orders 112 = .ok (.goto (-104), 3) := by decide +kernel
theorem d_L_orders_115 : decode cL_orders 115 = .ok (.iconst 0, 1) := by decide +kernel
theorem d_L_orders_116 : decode cL_orders 116 = .ok (.istore_n 2, 1) := by decide +kernel
theorem d_L_orders_117 : decode cL_orders 117 = .ok (.iload_n 2, 1) := by decide +kernel
theorem d_L_orders_118 : decode cL_orders 118 = .ok (.aload_n 0, 1) := by decide +kernel
theorem d_L_orders_119 : decode cL_orders 119 = .ok (.iconst 3, 1) := by decide +kernel
theorem d_L_orders_120 : decode cL_orders 120 = .ok (.invokevirtual 109, 3) := by decide +kernel
theorem d_L_orders_123 : decode cL_orders 123 = .ok (.if_icmp .ge 292, 3) := by decide +kernel
theorem d_L_orders_126 : decode cL_orders 126 = .ok (.aload_n 0, 1) := by decide +kernel
theorem d_L_orders_127 : decode cL_orders 127 = .ok (.iload_n 2, 1) := by decide +kernel
theorem d_L_orders_128 : decode cL_orders 128 = .ok (.iconst 3, 1) := by decide +kernel
theorem d_L_orders_129 : decode cL_orders 129 = .ok (.invokevirtual 225, 3) := by decide +kernel
theorem d_L_orders_132 : decode cL_orders 132 = .ok (.istore_n 3, 1) := by decide +kernel
theorem d_L_orders_133 : decode cL_orders 133 = .ok (.aload_n 0, 1) := by decide +kernel
theorem d_L_orders_134 : decode cL_orders 134 = .ok (.iload_n 2, 1) := by decide +kernel
theorem d_L_orders_135 : decode cL_orders 135 = .ok (.iconst 4, 1) := by decide +kernel
theorem d_L_orders_136 : decode cL_orders 136 = .ok (.invokevirtual 225, 3) := by decide +kernel
theorem d_L_orders_139 : decode cL_orders 139 = .ok (.istore 4, 2) := by decide +kernel
theorem d_L_orders_141 : decode cL_orders 141 = .ok (.iload_n 3, 1) := by decide +kernel
theorem d_L_orders_142 : decode cL_orders 142 = .ok (.iconst 1, 1) := by decide +kernel
theorem d_L_orders_143 : decode cL_orders 143 = .ok (.if_icmp .ne 27, 3) := by decide +kernel
theorem d_L_orders_146 : decode cL_orders 146 = .ok (.iload 4, 2) := by decide +kernel
theorem d_L_orders_148 : decode cL_orders 148 = .ok (.ifCond .lt 18, 3) := by decide +kernel
theorem d_L_orders_151 : decode cL_orders 151 = .ok (.aload_n 0, 1) := by decide +kernel
theorem d_L_orders_152 : decode cL_orders 152 = .ok (.iload 4, 2) := by decide +kernel
theorem d_L_orders_154 : decode cL_orders 154 = .ok (.iconst 2, 1) := by decide +kernel
theorem d_L_orders_155 : decode cL_orders 155 = .ok (.invokevirtual 203, 3) := by decide +kernel
theorem d_L_orders_158 : decode cL_orders 158 = .ok (.iload_n 2, 1) := by decide +kernel
theorem d_L_orders_159 : decode cL_orders 159 = .ok (.if_icmp .ne 7, 3) := by decide +kernel
theorem d_L_orders_162 : decode cL_orders 162 = .ok (.iconst 1, 1) := by decide +kernel
theorem d_L_orders_163 : decode cL_orders 163 = .ok (.goto 18, 3) := by decide +kernel
theorem d_L_orders_166 : decode cL_orders 166 = .ok (.iconst 0, 1) := by decide +kernel
theorem d_L_orders_167 : decode cL_orders 167 = .ok (.goto 14, 3) := by decide +kernel
theorem d_L_orders_170 : decode cL_orders 170 = .ok (.iload 4, 2) := by decide +kernel
theorem d_L_orders_172 : decode cL_orders 172 = .ok (.iconst (-1), 1) := by decide +kernel
theorem d_L_orders_173 : decode cL_orders 173 = .ok (.if_icmp .ne 7, 3) := by decide +kernel
theorem d_L_orders_176 : decode cL_orders 176 = .ok (.iconst 1, 1) := by decide +kernel
theorem d_L_orders_177 : decode cL_orders 177 = .ok (.goto 4, 3) := by decide +kernel
theorem d_L_orders_180 : decode cL_orders 180 = .ok (.iconst 0, 1) := by decide +kernel
theorem d_L_orders_181 : decode cL_orders 181 = .ok (.istore 5, 2) := by decide +kernel
theorem d_L_orders_183 : decode cL_orders 183 = .ok (.iload 5, 2) := by decide +kernel
theorem d_L_orders_185 : decode cL_orders 185 = .ok (.ifCond .eq 63, 3) := by decide +kernel
theorem d_L_orders_188 : decode cL_orders 188 = .ok (.iload_n 3, 1) := by decide +kernel
theorem d_L_orders_189 : decode cL_orders 189 = .ok (.ifCond .ne 12, 3) := by decide +kernel
theorem d_L_orders_192 : decode cL_orders 192 = .ok (.aload_n 0, 1) := by decide +kernel
theorem d_L_orders_193 : decode cL_orders 193 = .ok (.iload_n 2, 1) := by decide +kernel
theorem d_L_orders_194 : decode cL_orders 194 = .ok (.iconst 2, 1) := by decide +kernel
theorem d_L_orders_195 : decode cL_orders 195 = .ok (.invokevirtual 225, 3) := by decide +kernel
theorem d_L_orders_198 : decode cL_orders 198 = .ok (.ifCond .ne 50, 3) := by decide +kernel
theorem d_L_orders_201 : decode cL_orders 201 = .ok (.iload_n 3, 1) := by decide +kernel
theorem d_L_orders_202 : decode cL_orders 202 = .ok (.iconst 2, 1) := by decide +kernel
theorem d_L_orders_203 : decode cL_orders 203 = .ok (.if_icmp .ne 7, 3) := by decide +kernel
theorem d_L_orders_206 : decode cL_orders 206 = .ok (.iconst 1, 1) := by decide +kernel
theorem d_L_orders_207 : decode cL_orders 207 = .ok (.goto 4, 3) := by decide +kernel
theorem d_L_orders_210 : decode cL_orders 210 = .ok (.iconst 0, 1) := by decide +kernel
theorem d_L_orders_211 : decode cL_orders 211 = .ok (.aload_n 0, 1) := by decide +kernel
theorem d_L_orders_212 : decode cL_orders 212 = .ok (.iload_n 2, 1) := by decide +kernel
theorem d_L_orders_213 : decode cL_orders 213 = .ok (.iconst 5, 1) := by decide +kernel
theorem d_L_orders_214 : decode cL_orders 214 = .ok (.invokevirtual 225, 3) := by decide +kernel
theorem d_L_orders_217 : decode cL_orders 217 = .ok (.ifCond .lt 7, 3) := by decide +kernel
theorem d_L_orders_220 : decode cL_orders 220 = .ok (.iconst 1, 1) := by decide +kernel
theorem d_L_orders_221 : decode cL_orders 221 = .ok (.goto 4, 3) := by decide +kernel
theorem d_L_orders_224 : decode cL_orders 224 = .ok (.iconst 0, 1) := by decide +kernel
theorem d_L_orders_225 : decode cL_orders 225 = .ok (.if_icmp .ne 23, 3) := by decide +kernel
theorem d_L_orders_228 : decode cL_orders 228 = .ok (.iload_n 3, 1) := by decide +kernel
theorem d_L_orders_229 : decode cL_orders 229 = .ok (.iconst 2, 1) := by decide +kernel
theorem d_L_orders_230 : decode cL_orders 230 = .ok (.if_icmp .ne 20, 3) := by decide +kernel
theorem d_L_orders_233 : decode cL_orders 233 = .ok (.aload_n 0, 1) := by decide +kernel
theorem d_L_orders_234 : decode cL_orders 234 = .ok (.iload_n 2, 1) := by decide +kernel
theorem d_L_orders_235 : decode cL_orders 235 = .ok (.iconst 2, 1) := by decide +kernel
theorem d_L_orders_236 : decode cL_orders 236 = .ok (.invokevirtual 225, 3) := by decide +kernel
theorem d_L_orders_239 : decode cL_orders 239 = .ok (.aload_n 0, 1) := by decide +kernel
theorem d_L_orders_240 : decode cL_orders 240 = .ok (.iload_n 2, 1) := by decide +kernel
theorem d_L_orders_241 : decode cL_orders 241 = .ok (.iconst 1, 1) := by decide +kernel
theorem d_L_orders_242 : decode cL_orders 242 = .ok (.invokevirtual 225, 3) := by decide +kernel
theorem d_L_orders_245 : decode cL_orders 245 = .ok (.if_icmp .eq 5, 3) := by decide +kernel
theorem d_L_orders_248 : decode cL_orders 248 = .ok (.iconst 0, 1) := by decide +kernel
theorem d_L_orders_249 : decode cL_orders 249 = .ok (.ireturn, 1) := by decide +kernel
theorem d_L_orders_250 : decode cL_orders 250 = .ok (.bipush (-2), 2) := by decide +kernel
theorem d_L_orders_252 : decode cL_orders 252 = .ok (.istore 6, 2) := by decide +kernel
theorem d_L_orders_254 : decode cL_orders 254 = .ok (.iconst 0, 1) := by decide +kernel
theorem d_L_orders_255 : decode cL_orders 255 = .ok (.istore 7, 2) := by decide +kernel
theorem d_L_orders_257 : decode cL_orders 257 = .ok (.iload 7, 2) := by decide +kernel
theorem d_L_orders_259 : decode cL_orders 259 = .ok (.aload_n 0, 1) := by decide +kernel
theorem d_L_orders_260 : decode cL_orders 260 = .ok (.iconst 2, 1) := by decide +kernel
theorem d_L_orders_261 : decode cL_orders 261 = .ok (.invokevirtual 109, 3) := by decide +kernel
theorem d_L_orders_264 : decode cL_orders 264 = .ok (.if_icmp .ge 133, 3) := by decide +kernel
theorem d_L_orders_267 : decode cL_orders 267 = .ok (.aload_n 0, 1) := by decide +kernel
theorem d_L_orders_268 : decode cL_orders 268 = .ok (.iload 7, 2) := by decide +kernel
theorem d_L_orders_270 : decode cL_orders 270 = .ok (.iconst 2, 1) := by decide +kernel
theorem d_L_orders_271 : decode cL_orders 271 = .ok (.invokevirtual 203, 3) := by decide +kernel
theorem d_L_orders_274 : decode cL_orders 274 = .ok (.ifCond .lt 8, 3) := by decide +kernel
theorem d_L_orders_277 : decode cL_orders 277 = .ok (.bipush (-2), 2) := by decide +kernel
theorem d_L_orders_279 : decode cL_orders 279 = .ok (.goto 20, 3) := by decide +kernel
theorem d_L_orders_282 : decode cL_orders 282 = .ok (.aload_n 0, 1) := by decide +kernel
theorem d_L_orders_283 : decode cL_orders 283 = .ok (.aload_n 0, 1) := by decide +kernel
theorem d_L_orders_284 : decode cL_orders 284 = .ok (.iload 7, 2) := by decide +kernel
theorem d_L_orders_286 : decode cL_orders 286 = .ok (.iconst 0, 1) := by decide +kernel
theorem d_L_orders_287 : decode cL_orders 287 = .ok (.invokevirtual 203, 3) := by decide +kernel
theorem d_L_orders_290 : decode cL_orders 290 = .ok (.aload_n 0, 1) := by decide +kernel
theorem d_L_orders_291 : decode cL_orders 291 = .ok (.iload_n 2, 1) := by decide +kernel
theorem d_L_orders_292 : decode cL_orders 292 = .ok (.iconst 0, 1) := by decide +kernel
theorem d_L_orders_293 : decode cL_orders 293 = .ok (.invokevirtual 228, 3) := by decide +kernel
theorem d_L_orders_296 : decode cL_orders 296 = .ok (.invokestatic 201, 3) := by decide +kernel
theorem d_L_orders_299 : decode cL_orders 299 = .ok (.istore 8, 2) := by decide +kernel
theorem d_L_orders_301 : decode cL_orders 301 = .ok (.iload 6, 2) := by decide +kernel
theorem d_L_orders_303 : decode cL_orders 303 = .ok (.ifCond .ge 7, 3) := by decide +kernel
theorem d_L_orders_306 : decode cL_orders 306 = .ok (.iconst 0, 1) := by decide +kernel
theorem d_L_orders_307 : decode cL_orders 307 = .ok (.goto 20, 3) := by decide +kernel
theorem d_L_orders_310 : decode cL_orders 310 = .ok (.aload_n 0, 1) := by decide +kernel
theorem d_L_orders_311 : decode cL_orders 311 = .ok (.aload_n 0, 1) := by decide +kernel
theorem d_L_orders_312 : decode cL_orders 312 = .ok (.iload 6, 2) := by decide +kernel
theorem d_L_orders_314 : decode cL_orders 314 = .ok (.iconst 0, 1) := by decide +kernel
theorem d_L_orders_315 : decode cL_orders 315 = .ok (.invokevirtual 203, 3) := by decide +kernel
theorem d_L_orders_318 : decode cL_orders 318 = .ok (.aload_n 0, 1) := by decide +kernel
theorem d_L_orders_319 : decode cL_orders 319 = .ok (.iload_n 2, 1) := by decide +kernel
theorem d_L_orders_320 : decode cL_orders 320 = .ok (.iconst 0, 1) := by decide +kernel
theorem d_L_orders_321 : decode cL_orders 321 = .ok (.invokevirtual 228, 3) := by decide +kernel
theorem d_L_orders_324 : decode cL_orders 324 = .ok (.invokestatic 201, 3) := by decide +kernel
theorem d_L_orders_327 : decode cL_orders 327 = .ok (.istore 9, 2) := by decide +kernel
theorem d_L_orders_329 : decode cL_orders 329 = .ok (.iload 8, 2) := by decide +kernel
theorem d_L_orders_331 : decode cL_orders 331 = .ok (.ifCond .lt 43, 3) := by decide +kernel
theorem d_L_orders_334 : decode cL_orders 334 = .ok (.iload 6, 2) := by decide +kernel
theorem d_L_orders_336 : decode cL_orders 336 = .ok (.ifCond .lt 34, 3) := by decide +kernel
theorem d_L_orders_339 : decode cL_orders 339 = .ok (.iload 8, 2) := by decide +kernel
theorem d_L_orders_341 : decode cL_orders 341 = .ok (.iload 9, 2) := by decide +kernel
theorem d_L_orders_343 : decode cL_orders 343 = .ok (.if_icmp .lt 27, 3) := by decide +kernel
theorem d_L_orders_346 : decode cL_orders 346 = .ok (.iload 8, 2) := by decide +kernel
theorem d_L_orders_348 : decode cL_orders 348 = .ok (.iload 9, 2) := by decide +kernel
theorem d_L_orders_350 : decode cL_orders 350 = .ok (.if_icmp .ne 24, 3) := by decide +kernel
theorem d_L_orders_353 : decode cL_orders 353 = .ok (.aload_n 0, 1) := by decide +kernel
theorem d_L_orders_354 : decode cL_orders 354 = .ok (.iload 7, 2) := by decide +kernel
theorem d_L_orders_356 : decode cL_orders 356 = .ok (.iconst 1, 1) := by decide +kernel
theorem d_L_orders_357 : decode cL_orders 357 = .ok (.invokevirtual 203, 3) := by decide +kernel
theorem d_L_orders_360 : decode cL_orders 360 = .ok (.aload_n 0, 1) := by decide +kernel
theorem d_L_orders_361 : decode cL_orders 361 = .ok (.iload 6, 2) := by decide +kernel
theorem d_L_orders_363 : decode cL_orders 363 = .ok (.iconst 1, 1) := by decide +kernel
theorem d_L_orders_364 : decode cL_orders 364 = .ok (.invokevirtual 203, 3) := by decide +kernel
theorem d_L_orders_367 : decode cL_orders 367 = .ok (.if_icmp .le 7, 3) := by decide +kernel
theorem d_L_orders_370 : decode cL_orders 370 = .ok (.iconst 1, 1) := by decide +kernel
theorem d_L_orders_371 : decode cL_orders 371 = .ok (.goto 4, 3) := by decide +kernel
theorem d_L_orders_374 : decode cL_orders 374 = .ok (.iconst 0, 1) := by decide +kernel
theorem d_L_orders_375 : decode cL_orders 375 = .ok (.istore 10, 2) := by decide +kernel
theorem d_L_orders_377 : decode cL_orders 377 = .ok (.iload 10, 2) := by decide +kernel
theorem d_L_orders_379 : decode cL_orders 379 = .ok (.ifCond .eq 8, 3) := by decide +kernel
theorem d_L_orders_382 : decode cL_orders 382 = .ok (.iload 7, 2) := by decide +kernel
theorem d_L_orders_384 : decode cL_orders 384 = .ok (.goto 5, 3) := by decide +kernel
theorem d_L_orders_387 : decode cL_orders 387 = .ok (.iload 6, 2) := by decide +kernel
theorem d_L_orders_389 : decode cL_orders 389 = .ok (.istore 6, 2) := by decide +kernel
theorem d_L_orders_391 : decode cL_orders 391 = .ok (.iinc 7 1, 3) := by decide +kernel
theorem d_L_orders_394 : decode cL_orders 394 = .ok (.goto (-137), 3) := by decide +kernel
theorem d_L_orders_397 : decode cL_orders 397 = .ok (.aload_n 0, 1) := by decide +kernel
theorem d_L_orders_398 : decode cL_orders 398 = .ok (.iload_n 2, 1) := by decide +kernel
theorem d_L_orders_399 : decode cL_orders 399 = .ok (.invokestatic 231, 3) := by decide +kernel
theorem d_L_orders_402 : decode cL_orders 402 = .ok (.iload 6, 2) := by decide +kernel
theorem d_L_orders_404 : decode cL_orders 404 = .ok (.if_icmp .eq 5, 3) := by decide +kernel
theorem d_L_orders_407 : decode cL_orders 407 = .ok (.iconst 0, 1) := by decide +kernel
theorem d_L_orders_408 : decode cL_orders 408 = .ok (.ireturn, 1) := by decide +kernel
theorem d_L_orders_409 : decode cL_orders 409 = .ok (.iinc 2 1, 3) := by decide +kernel
theorem d_L_orders_412 : decode cL_orders 412 = .ok (.goto (-295), 3) := by decide +kernel
theorem d_L_orders_415 : decode cL_orders 415 = .ok (.aload_n 0, 1) := by decide +kernel
theorem d_L_orders_416 : decode cL_orders 416 = .ok (.iload_n 1, 1) := by decide +kernel
theorem d_L_orders_417 : decode cL_orders 417 = .ok (.invokestatic 223, 3) := by decide +kernel
theorem d_L_orders_420 : decode cL_orders 420 = .ok (.bipush (-2), 2) := by decide +kernel
theorem d_L_orders_422 : decode cL_orders 422 = .ok (.if_icmp .ne 16, 3) := by decide +kernel
theorem d_L_orders_425 : decode cL_orders 425 = .ok (.iload_n 1, 1) := by decide +kernel
theorem d_L_orders_426 : decode cL_orders 426 = .ok (.aload_n 0, 1) := by decide +kernel
theorem d_L_orders_427 : decode cL_orders 427 = .ok (.iconst 4, 1) := by decide +kernel
theorem d_L_orders_428 : decode cL_orders 428 = .ok (.invokevirtual 109, 3) := by decide +kernel
theorem d_L_orders_431 : decode cL_orders 431 = .ok (.if_icmp .ne 7, 3) := by decide +kernel
theorem d_L_orders_434 : decode cL_orders 434 = .ok (.iconst 1, 1) := by decide +kernel
theorem d_L_orders_435 : decode cL_orders 435 = .ok (.goto 4, 3) := by decide +kernel
theorem d_L_orders_438 : decode cL_orders 438 = .ok (.iconst 0, 1) := by decide +kernel
theorem d_L_orders_439 : decode cL_orders 439 = .ok (.ireturn, 1) := by decide +kernel
theorem d_L_accounts_0 : decode cL_accounts 0 = .ok (.iconst 0, 1) := by decide +kernel
theorem d_L_accounts_1 : decode cL_accounts 1 = .ok (.istore_n 1, 1) := by decide +kernel
theorem d_L_accounts_2 : decode cL_accounts 2 = .ok (.iconst 0, 1) := by decide +kernel
theorem d_L_accounts_3 : decode cL_accounts 3 = .ok (.istore_n 2, 1) := by decide +kernel
theorem d_L_accounts_4 : decode cL_accounts 4 = .ok (.iconst 0, 1) := by decide +kernel
theorem d_L_accounts_5 : decode cL_accounts 5 = .ok (.istore_n 3, 1) := by decide +kernel
theorem d_L_accounts_6 : decode cL_accounts 6 = .ok (.iconst 0, 1) := by decide +kernel
theorem d_L_accounts_7 : decode cL_accounts 7 = .ok (.istore 4, 2) := by decide +kernel
theorem d_L_accounts_9 : decode cL_accounts 9 = .ok (.iload 4, 2) := by decide +kernel
theorem d_L_accounts_11 : decode cL_accounts 11 = .ok (.aload_n 0, 1) := by decide +kernel
theorem d_L_accounts_12 : decode cL_accounts 12 = .ok (.iconst 2, 1) := by decide +kernel
theorem d_L_accounts_13 : decode cL_accounts 13 = .ok (.invokevirtual 109, 3) := by decide +kernel
theorem d_L_accounts_16 : decode cL_accounts 16 = .ok (.if_icmp .ge 113, 3) := by decide +kernel
theorem d_L_accounts_19 : decode cL_accounts 19 = .ok (.aload_n 0, 1) := by decide +kernel
theorem d_L_accounts_20 : decode cL_accounts 20 = .ok (.iload 4, 2) := by decide +kernel
theorem d_L_accounts_22 : decode cL_accounts 22 = .ok (.iconst 2, 1) := by decide +kernel
theorem d_L_accounts_23 : decode cL_accounts 23 = .ok (.invokevirtual 203, 3) := by decide +kernel
theorem d_L_accounts_26 : decode cL_accounts 26 = .ok (.istore 5, 2) := by decide +kernel
theorem d_L_accounts_28 : decode cL_accounts 28 = .ok (.iload 5, 2) := by decide +kernel
theorem d_L_accounts_30 : decode cL_accounts 30 = .ok (.ifCond .lt 17, 3) := by decide +kernel
theorem d_L_accounts_33 : decode cL_accounts 33 = .ok (.aload_n 0, 1) := by decide +kernel
theorem d_L_accounts_34 : decode cL_accounts 34 = .ok (.iload 5, 2) := by decide +kernel
theorem d_L_accounts_36 : decode cL_accounts 36 = .ok (.iconst 2, 1) := by decide +kernel
theorem d_L_accounts_37 : decode cL_accounts 37 = .ok (.invokevirtual 225, 3) := by decide +kernel
theorem d_L_accounts_40 : decode cL_accounts 40 = .ok (.ifCond .le 7, 3) := by decide +kernel
theorem d_L_accounts_43 : decode cL_accounts 43 = .ok (.iconst 1, 1) := by decide +kernel
theorem d_L_accounts_44 : decode cL_accounts 44 = .ok (.goto 4, 3) := by decide +kernel
theorem d_L_accounts_47 : decode cL_accounts 47 = .ok (.iconst 0, 1) := by decide +kernel
theorem d_L_accounts_48 : decode cL_accounts 48 = .ok (.istore 6, 2) := by decide +kernel
theorem d_L_accounts_50 : decode cL_accounts 50 = .ok (.iload_n 1, 1) := by decide +kernel
theorem d_L_accounts_51 : decode cL_accounts 51 = .ok (.aload_n 0, 1) := by decide +kernel
theorem d_L_accounts_52 : decode cL_accounts 52 = .ok (.iload 4, 2) := by decide +kernel
theorem d_L_accounts_54 : decode cL_accounts 54 = .ok (.bipush 6, 2) := by decide +kernel
theorem d_L_accounts_56 : decode cL_accounts 56 = .ok (.invokevirtual 203, 3) := by decide +kernel
theorem d_L_accounts_59 : decode cL_accounts 59 = .ok (.iadd, 1) := by decide +kernel
theorem d_L_accounts_60 : decode cL_accounts 60 = .ok (.istore_n 1, 1) := by decide +kernel
theorem d_L_accounts_61 : decode cL_accounts 61 = .ok (.iload_n 2, 1) := by decide +kernel
theorem d_L_accounts_62 : decode cL_accounts 62 = .ok (.aload_n 0, 1) := by decide +kernel
theorem d_L_accounts_63 : decode cL_accounts 63 = .ok (.iload 4, 2) := by decide +kernel
theorem d_L_accounts_65 : decode cL_accounts 65 = .ok (.iconst 1, 1) := by decide +kernel
theorem d_L_accounts_66 : decode cL_accounts 66 = .ok (.invokevirtual 203, 3) := by decide +kernel
theorem d_L_accounts_69 : decode cL_accounts 69 = .ok (.iadd, 1) := by decide +kernel
theorem d_L_accounts_70 : decode cL_accounts 70 = .ok (.istore_n 2, 1) := by decide +kernel
theorem d_L_accounts_71 : decode cL_accounts 71 = .ok (.iload_n 3, 1) := by decide +kernel
theorem d_L_accounts_72 : decode cL_accounts 72 = .ok (.iload 6, 2) := by decide +kernel
theorem d_L_accounts_74 : decode cL_accounts 74 = .ok (.ifCond .eq 7, 3) := by decide +kernel
theorem d_L_accounts_77 : decode cL_accounts 77 = .ok (.iconst 1, 1) := by decide +kernel
theorem d_L_accounts_78 : decode cL_accounts 78 = .ok (.goto 4, 3) := by decide +kernel
theorem d_L_accounts_81 : decode cL_accounts 81 = .ok (.iconst 0, 1) := by decide +kernel
theorem d_L_accounts_82 : decode cL_accounts 82 = .ok (.iadd, 1) := by decide +kernel
theorem d_L_accounts_83 : decode cL_accounts 83 = .ok (.istore_n 3, 1) := by decide +kernel
theorem d_L_accounts_84 : decode cL_accounts 84 = .ok (.aload_n 0, 1) := by decide +kernel
theorem d_L_accounts_85 : decode cL_accounts 85 = .ok (.iload 4, 2) := by decide +kernel
theorem d_L_accounts_87 : decode cL_accounts 87 = .ok (.iconst 5, 1) := by decide +kernel
theorem d_L_accounts_88 : decode cL_accounts 88 = .ok (.invokevirtual 203, 3) := by decide +kernel
theorem d_L_accounts_91 : decode cL_accounts 91 = .ok (.iload 6, 2) := by decide +kernel
theorem d_L_accounts_93 : decode cL_accounts 93 = .ok (.ifCond .eq 7, 3) := by decide +kernel
theorem d_L_accounts_96 : decode cL_accounts 96 = .ok (.iconst 1, 1) := by decide +kernel
theorem d_L_accounts_97 : decode cL_accounts 97 = .ok (.goto 4, 3) := by decide +kernel
theorem d_L_accounts_100 : decode cL_accounts 100 = .ok (.iconst 0, 1) := by decide +kernel
theorem d_L_accounts_101 : decode cL_accounts 101 = .ok (.if_icmp .ne 20, 3) := by decide +kernel
theorem d_L_accounts_104 : decode cL_accounts 104 = .ok (.iload 5, 2) := by decide +kernel
theorem d_L_accounts_106 : decode cL_accounts 106 = .ok (.ifCond .lt 17, 3) := by decide +kernel
theorem d_L_accounts_109 : decode cL_accounts 109 = .ok (.aload_n 0, 1) := by decide +kernel
theorem d_L_accounts_110 : decode cL_accounts 110 = .ok (.iload 5, 2) := by decide +kernel
theorem d_L_accounts_112 : decode cL_accounts 112 = .ok (.iconst 4, 1) := by decide +kernel
theorem d_L_accounts_113 : decode cL_accounts 113 = .ok (.invokevirtual 225, 3) := by decide +kernel
theorem d_L_accounts_116 : decode cL_accounts 116 = .ok (.iload 4, 2) := by decide +kernel
theorem d_L_accounts_118 : decode cL_accounts 118 = .ok (.if_icmp .eq 5, 3) := by decide +kernel
theorem d_L_accounts_121 : decode cL_accounts 121 = .ok (.iconst 0, 1) := by decide +kernel
theorem d_L_accounts_122 : decode cL_accounts 122 = .ok (.ireturn, 1) := by decide +kernel
theorem d_L_accounts_123 : decode cL_accounts 123 = .ok (.iinc 4 1, 3) := by decide +kernel
theorem d_L_accounts_126 : decode cL_accounts 126 = .ok (.goto (-117), 3) := by decide +kernel
theorem d_L_accounts_129 : decode cL_accounts 129 = .ok (.iconst 0, 1) := by decide +kernel
theorem d_L_accounts_130 : decode cL_accounts 130 = .ok (.istore 4, 2) := by decide +kernel
theorem d_L_accounts_132 : decode cL_accounts 132 = .ok (.iconst 0, 1) := by decide +kernel
theorem d_L_accounts_133 : decode cL_accounts 133 = .ok (.istore 5, 2) := by decide +kernel
theorem d_L_accounts_135 : decode cL_accounts 135 = .ok (.iconst 0, 1) := by decide +kernel
theorem d_L_accounts_136 : decode cL_accounts 136 = .ok (.istore 6, 2) := by decide +kernel
theorem d_L_accounts_138 : decode cL_accounts 138 = .ok (.iload 6, 2) := by decide +kernel
theorem d_L_accounts_140 : decode cL_accounts 140 = .ok (.aload_n 0, 1) := by decide +kernel
theorem d_L_accounts_141 : decode cL_accounts 141 = .ok (.iconst 3, 1) := by decide +kernel
theorem d_L_accounts_142 : decode cL_accounts 142 = .ok (.invokevirtual 109, 3) := by decide +kernel
theorem d_L_accounts_145 : decode cL_accounts 145 = .ok (.if_icmp .ge 56, 3) := by decide +kernel
theorem d_L_accounts_148 : decode cL_accounts 148 = .ok (.iload 4, 2) := by decide +kernel
theorem d_L_accounts_150 : decode cL_accounts 150 = .ok (.aload_n 0, 1) := by decide +kernel
theorem d_L_accounts_151 : decode cL_accounts 151 = .ok (.iload 6, 2) := by decide +kernel
theorem d_L_accounts_153 : decode cL_accounts 153 = .ok (.iconst 2, 1) := by decide +kernel
theorem d_L_accounts_154 : decode cL_accounts 154 = .ok (.invokevirtual 225, 3) := by decide +kernel
theorem d_L_accounts_157 : decode cL_accounts 157 = .ok (.iadd, 1) := by decide +kernel
theorem d_L_accounts_158 : decode cL_accounts 158 = .ok (.istore 4, 2) := by decide +kernel
theorem d_L_accounts_160 : decode cL_accounts 160 = .ok (.iload 5, 2) := by decide +kernel
theorem d_L_accounts_162 : decode cL_accounts 162 = .ok (.aload_n 0, 1) := by decide +kernel
theorem d_L_accounts_163 : decode cL_accounts 163 = .ok (.iload 6, 2) := by decide +kernel
theorem d_L_accounts_165 : decode cL_accounts 165 = .ok (.iconst 3, 1) := by decide +kernel
theorem d_L_accounts_166 : decode cL_accounts 166 = .ok (.invokevirtual 225, 3) := by decide +kernel
theorem d_L_accounts_169 : decode cL_accounts 169 = .ok (.iconst 2, 1) := by decide +kernel
theorem d_L_accounts_170 : decode cL_accounts 170 = .ok (.if_icmp .ne 21, 3) := by decide +kernel
theorem d_L_accounts_173 : decode cL_accounts 173 = .ok (.aload_n 0, 1) := by decide +kernel
theorem d_L_accounts_174 : decode cL_accounts 174 = .ok (.iload 6, 2) := by decide +kernel
theorem d_L_accounts_176 : decode cL_accounts 176 = .ok (.iconst 5, 1) := by decide +kernel
theorem d_L_accounts_177 : decode cL_accounts 177 = .ok (.invokevirtual 225, 3) := by decide +kernel
theorem d_L_accounts_180 : decode cL_accounts 180 = .ok (.aload_n 0, 1) := by decide +kernel
theorem d_L_accounts_181 : decode cL_accounts 181 = .ok (.iload 6, 2) := by decide +kernel
theorem d_L_accounts_183 : decode cL_accounts 183 = .ok (.iconst 0, 1) := by decide +kernel
theorem d_L_accounts_184 : decode cL_accounts 184 = .ok (.invokevirtual 225, 3) := by decide +kernel
theorem d_L_accounts_187 : decode cL_accounts 187 = .ok (.isub, 1) := by decide +kernel
theorem d_L_accounts_188 : decode cL_accounts 188 = .ok (.goto 4, 3) := by decide +kernel
theorem d_L_accounts_191 : decode cL_accounts 191 = .ok (.iconst 0, 1) := by decide +kernel
theorem d_L_accounts_192 : decode cL_accounts 192 = .ok (.iadd, 1) := by decide +kernel
theorem d_L_accounts_193 : decode cL_accounts 193 = .ok (.istore 5, 2) := by decide +kernel
theorem d_L_accounts_195 : decode cL_accounts 195 = .ok (.iinc 6 1, 3) := by decide +kernel
theorem d_L_accounts_198 : decode cL_accounts 198 = .ok (.goto (-60), 3) := by decide +kernel
theorem d_L_accounts_201 : decode cL_accounts 201 = .ok (.aload_n 0, 1) := by decide +kernel
theorem d_L_accounts_202 : decode cL_accounts 202 = .ok (.iconst 4, 1) := by decide +kernel
theorem d_L_accounts_203 : decode cL_accounts 203 = .ok (.invokevirtual 109, 3) := by decide +kernel
theorem d_L_accounts_206 : decode cL_accounts 206 = .ok (.aload_n 0, 1) := by decide +kernel
theorem d_L_accounts_207 : decode cL_accounts 207 = .ok (.iconst 5, 1) := by decide +kernel
theorem d_L_accounts_208 : decode cL_accounts 208 = .ok (.invokevirtual 109, 3) := by decide +kernel
theorem d_L_accounts_211 : decode cL_accounts 211 = .ok (.iadd, 1) := by decide +kernel
theorem d_L_accounts_212 : decode cL_accounts 212 = .ok (.aload_n 0, 1) := by decide +kernel
theorem d_L_accounts_213 : decode cL_accounts 213 = .ok (.bipush 6, 2) := by decide +kernel
theorem d_L_accounts_215 : decode cL_accounts 215 = .ok (.invokevirtual 109, 3) := by decide +kernel
theorem d_L_accounts_218 : decode cL_accounts 218 = .ok (.iadd, 1) := by decide +kernel
theorem d_L_accounts_219 : decode cL_accounts 219 = .ok (.aload_n 0, 1) := by decide +kernel
theorem d_L_accounts_220 : decode cL_accounts 220 = .ok (.iconst 3, 1) := by decide +kernel
theorem d_L_accounts_221 : decode cL_accounts 221 = .ok (.invokevirtual 109, 3) := by decide +kernel
theorem d_L_accounts_224 : decode cL_accounts 224 = .ok (.if_icmp .ne 38, 3) := by decide +kernel
theorem d_L_accounts_227 : decode cL_accounts 227 = .ok (.aload_n 0, 1) := by decide +kernel
theorem d_L_accounts_228 : decode cL_accounts 228 = .ok (.bipush 9, 2) := by decide +kernel
theorem d_L_accounts_230 : decode cL_accounts 230 = .ok (.invokevirtual 109, 3) := by decide +kernel
theorem d_L_accounts_233 : decode cL_accounts 233 = .ok (.iload_n 1, 1) := by decide +kernel
theorem d_L_accounts_234 : decode cL_accounts 234 = .ok (.if_icmp .ne 28, 3) := by decide +kernel
theorem d_L_accounts_237 : decode cL_accounts 237 = .ok (.aload_n 0, 1) := by decide +kernel
theorem d_L_accounts_238 : decode cL_accounts 238 = .ok (.bipush 10, 2) := by decide +kernel
theorem d_L_accounts_240 : decode cL_accounts 240 = .ok (.invokevirtual 109, 3) := by decide +kernel
theorem d_L_accounts_243 : decode cL_accounts 243 = .ok (.iload 4, 2) := by decide +kernel
theorem d_L_accounts_245 : decode cL_accounts 245 = .ok (.if_icmp .ne 17, 3) := by decide +kernel
theorem d_L_accounts_248 : decode cL_accounts 248 = .ok (.aload_n 0, 1) := by decide +kernel
theorem d_L_accounts_249 : decode cL_accounts 249 = .ok (.bipush 11, 2) := by decide +kernel
theorem d_L_accounts_251 : decode cL_accounts 251 = .ok (.invokevirtual 109, 3) := by decide +kernel
theorem d_L_accounts_254 : decode cL_accounts 254 = .ok (.iload_n 2, 1) := by decide +kernel
theorem d_L_accounts_255 : decode cL_accounts 255 = .ok (.if_icmp .ne 7, 3) := by decide +kernel
theorem d_L_accounts_258 : decode cL_accounts 258 = .ok (.iconst 1, 1) := by decide +kernel
theorem d_L_accounts_259 : decode cL_accounts 259 = .ok (.goto 4, 3) := by decide +kernel
theorem d_L_accounts_262 : decode cL_accounts 262 = .ok (.iconst 0, 1) := by decide +kernel
theorem d_L_accounts_263 : decode cL_accounts 263 = .ok (.istore 6, 2) := by decide +kernel
theorem d_L_accounts_265 : decode cL_accounts 265 = .ok (.iload 6, 2) := by decide +kernel
theorem d_L_accounts_267 : decode cL_accounts 267 = .ok (.ifCond .eq 32, 3) := by decide +kernel
theorem d_L_accounts_270 : decode cL_accounts 270 = .ok (.aload_n 0, 1) := by decide +kernel
theorem d_L_accounts_271 : decode cL_accounts 271 = .ok (.iconst 2, 1) := by decide +kernel
theorem d_L_accounts_272 : decode cL_accounts 272 = .ok (.invokevirtual 109, 3) := by decide +kernel
theorem d_L_accounts_275 : decode cL_accounts 275 = .ok (.ifCond .eq 20, 3) := by decide +kernel
theorem d_L_accounts_278 : decode cL_accounts 278 = .ok (.aload_n 0, 1) := by decide +kernel
theorem d_L_accounts_279 : decode cL_accounts 279 = .ok (.invokevirtual 233, 3) := by decide +kernel
theorem d_L_accounts_282 : decode cL_accounts 282 = .ok (.iload_n 3, 1) := by decide +kernel
theorem d_L_accounts_283 : decode cL_accounts 283 = .ok (.i2f, 1) := by decide +kernel
theorem d_L_accounts_284 : decode cL_accounts 284 = .ok (.aload_n 0, 1) := by decide +kernel
theorem d_L_accounts_285 : decode cL_accounts 285 = .ok (.iconst 2, 1) := by decide +kernel
theorem d_L_accounts_286 : decode cL_accounts 286 = .ok (.invokevirtual 109, 3) := by decide +kernel
theorem d_L_accounts_289 : decode cL_accounts 289 = .ok (.i2f, 1) := by decide +kernel
theorem d_L_accounts_290 : decode cL_accounts 290 = .ok (.fdiv, 1) := by decide +kernel
theorem d_L_accounts_291 : decode cL_accounts 291 = .ok (.fcmp .l, 1) := by decide +kernel
theorem d_L_accounts_292 : decode cL_accounts 292 = .ok (.ifCond .ne 7, 3) := by decide +kernel
theorem d_L_accounts_295 : decode cL_accounts 295 = .ok (.iconst 1, 1) := by decide +kernel
theorem d_L_accounts_296 : decode cL_accounts 296 = .ok (.goto 4, 3) := by decide +kernel
theorem d_L_accounts_299 : decode cL_accounts 299 = .ok (.iconst 0, 1) := by decide +kernel
theorem d_L_accounts_300 : decode cL_accounts 300 = .ok (.istore 6, 2) := by decide +kernel
theorem d_L_accounts_302 : decode cL_accounts 302 = .ok (.iload 6, 2) := by decide +kernel
theorem d_L_accounts_304 : decode cL_accounts 304 = .ok (.ifCond .eq 35, 3) := by decide +kernel
theorem d_L_accounts_307 : decode cL_accounts 307 = .ok (.aload_n 0, 1) := by decide +kernel
theorem d_L_accounts_308 : decode cL_accounts 308 = .ok (.bipush 6, 2) := by decide +kernel
theorem d_L_accounts_310 : decode cL_accounts 310 = .ok (.invokevirtual 109, 3) := by decide +kernel
theorem d_L_accounts_313 : decode cL_accounts 313 = .ok (.ifCond .eq 22, 3) := by decide +kernel
theorem d_L_accounts_316 : decode cL_accounts 316 = .ok (.aload_n 0, 1) := by decide +kernel
theorem d_L_accounts_317 : decode cL_accounts 317 = .ok (.invokevirtual 237, 3) := by decide +kernel
theorem d_L_accounts_320 : decode cL_accounts 320 = .ok (.iload 5, 2) := by decide +kernel
theorem d_L_accounts_322 : decode cL_accounts 322 = .ok (.i2d, 1) := by decide +kernel
theorem d_L_accounts_323 : decode cL_accounts 323 = .ok (.aload_n 0, 1) := by decide +kernel
theorem d_L_accounts_324 : decode cL_accounts 324 = .ok (.bipush 6, 2) := by decide +kernel
theorem d_L_accounts_326 : decode cL_accounts 326 = .ok (.invokevirtual 109, 3) := by decide +kernel
theorem d_L_accounts_329 : decode cL_accounts 329 = .ok (.i2d, 1) := by decide +kernel
theorem d_L_accounts_330 : decode cL_accounts 330 = .ok (.ddiv, 1) := by decide +kernel
theorem d_L_accounts_331 : decode cL_accounts 331 = .ok (.dcmp .l, 1) := by decide +kernel
theorem d_L_accounts_332 : decode cL_accounts 332 = .ok (.ifCond .ne 7, 3) := by decide +kernel
theorem d_L_accounts_335 : decode cL_accounts 335 = .ok (.iconst 1, 1) := by decide +kernel
theorem d_L_accounts_336 : decode cL_accounts 336 = .ok (.goto 4, 3) := by decide +kernel
theorem d_L_accounts_339 : decode cL_accounts 339 = .ok (.iconst 0, 1) := by decide +kernel
theorem d_L_accounts_340 : decode cL_accounts 340 = .ok (.ireturn, 1) := by decide +kernel
theorem d_L_letters_0 : decode cL_letters 0 = .ok (.iconst 0, 1) := by decide +kernel
theorem d_L_letters_1 : decode cL_letters 1 = .ok (.istore_n 1, 1) := by decide +kernel
theorem d_L_letters_2 : decode cL_letters 2 = .ok (.iconst 0, 1) := by decide +kernel
theorem d_L_letters_3 : decode cL_letters 3 = .ok (.istore_n 2, 1) := by decide +kernel
theorem d_L_letters_4 : decode cL_letters 4 = .ok (.iload_n 2, 1) := by decide +kernel
theorem d_L_letters_5 : decode cL_letters 5 = .ok (.aload_n 0, 1) := by decide +kernel
theorem d_L_letters_6 : decode cL_letters 6 = .ok (.invokestatic 145, 3) := by decide +kernel
theorem d_L_letters_9 : decode cL_letters 9 = .ok (.if_icmp .ge 80, 3) := by decide +kernel
theorem d_L_letters_12 : decode cL_letters 12 = .ok (.aload_n 0, 1) := by decide +kernel
theorem d_L_letters_13 : decode cL_letters 13 = .ok (.iload_n 2, 1) := by decide +kernel
theorem d_L_letters_14 : decode cL_letters 14 = .ok (.iconst 2, 1) := by decide +kernel
theorem d_L_letters_15 : decode cL_letters 15 = .ok (.invokevirtual 196, 3) := by decide +kernel
theorem d_L_letters_18 : decode cL_letters 18 = .ok (.istore_n 3, 1) := by decide +kernel
theorem d_L_letters_19 : decode cL_letters 19 = .ok (.aload_n 0, 1) := by decide +kernel
theorem d_L_letters_20 : decode cL_letters 20 = .ok (.iload_n 2, 1) := by decide +kernel
theorem d_L_letters_21 : decode cL_letters 21 = .ok (.invokevirtual 241, 3) := by decide +kernel
theorem d_L_letters_24 : decode cL_letters 24 = .ok (.istore 4, 2) := by decide +kernel
theorem d_L_letters_26 : decode cL_letters 26 = .ok (.iload_n 1, 1) := by decide +kernel
theorem d_L_letters_27 : decode cL_letters 27 = .ok (.iload_n 3, 1) := by decide +kernel
theorem d_L_letters_28 : decode cL_letters 28 = .ok (.ifCond .lt 7, 3) := by decide +kernel
theorem d_L_letters_31 : decode cL_letters 31 = .ok (.iconst 1, 1) := by decide +kernel
theorem d_L_letters_32 : decode cL_letters 32 = .ok (.goto 4, 3) := by decide +kernel
theorem d_L_letters_35 : decode cL_letters 35 = .ok (.iconst 0, 1) := by decide +kernel
theorem d_L_letters_36 : decode cL_letters 36 = .ok (.iadd, 1) := by decide +kernel
theorem d_L_letters_37 : decode cL_letters 37 = .ok (.istore_n 1, 1) := by decide +kernel
theorem d_L_letters_38 : decode cL_letters 38 = .ok (.iload_n 3, 1) := by decide +kernel
theorem d_L_letters_39 : decode cL_letters 39 = .ok (.ifCond .lt 26, 3) := by decide +kernel
theorem d_L_letters_42 : decode cL_letters 42 = .ok (.iload 4, 2) := by decide +kernel
theorem d_L_letters_44 : decode cL_letters 44 = .ok (.bipush 48, 2) := by decide +kernel
theorem d_L_letters_46 : decode cL_letters 46 = .ok (.iload_n 3, 1) := by decide +kernel
theorem d_L_letters_47 : decode cL_letters 47 = .ok (.iadd, 1) := by decide +kernel
theorem d_L_letters_48 : decode cL_letters 48 = .ok (.i2c, 1) := by decide +kernel
theorem d_L_letters_49 : decode cL_letters 49 = .ok (.if_icmp .ne 32, 3) := by decide +kernel
theorem d_L_letters_52 : decode cL_letters 52 = .ok (.aload_n 0, 1) := by decide +kernel
theorem d_L_letters_53 : decode cL_letters 53 = .ok (.iload_n 3, 1) := by decide +kernel
theorem d_L_letters_54 : decode cL_letters 54 = .ok (.iconst 0, 1) := by decide +kernel
theorem d_L_letters_55 : decode cL_letters 55 = .ok (.invokevirtual 203, 3) := by decide +kernel
theorem d_L_letters_58 : decode cL_letters 58 = .ok (.iload_n 2, 1) := by decide +kernel
theorem d_L_letters_59 : decode cL_letters 59 = .ok (.if_icmp .eq 24, 3) := by decide +kernel
theorem d_L_letters_62 : decode cL_letters 62 = .ok (.goto 19, 3) := by decide +kernel
theorem d_L_letters_65 : decode cL_letters 65 = .ok (.iload 4, 2) := by decide +kernel
theorem d_L_letters_67 : decode cL_letters 67 = .ok (.ldc 244, 2) := by decide +kernel
theorem d_L_letters_69 : decode cL_letters 69 = .ok (.aload_n 0, 1) := by decide +kernel
theorem d_L_letters_70 : decode cL_letters 70 = .ok (.iload_n 2, 1) := by decide +kernel
theorem d_L_letters_71 : decode cL_letters 71 = .ok (.iconst 0, 1) := by decide +kernel
theorem d_L_letters_72 : decode cL_letters 72 = .ok (.invokevirtual 196, 3) := by decide +kernel
theorem d_L_letters_75 : decode cL_letters 75 = .ok (.invokevirtual 27, 3) := by decide +kernel
theorem d_L_letters_78 : decode cL_letters 78 = .ok (.if_icmp .eq 5, 3) := by decide +kernel
theorem d_L_letters_81 : decode cL_letters 81 = .ok (.iconst 0, 1) := by decide +kernel
theorem d_L_letters_82 : decode cL_letters 82 = .ok (.ireturn, 1) := by decide +kernel
theorem d_L_letters_83 : decode cL_letters 83 = .ok (.iinc 2 1, 3) := by decide +kernel
theorem d_L_letters_86 : decode cL_letters 86 = .ok (.goto (-82), 3) := by decide +kernel
theorem d_L_letters_89 : decode cL_letters 89 = .ok (.iload_n 1, 1) := by decide +kernel
theorem d_L_letters_90 : decode cL_letters 90 = .ok (.aload_n 0, 1) := by decide +kernel
theorem d_L_letters_91 : decode cL_letters 91 = .ok (.iconst 2, 1) := by decide +kernel
theorem d_L_letters_92 : decode cL_letters 92 = .ok (.invokevirtual 109, 3) := by decide +kernel
theorem d_L_letters_95 : decode cL_letters 95 = .ok (.if_icmp .ne 7, 3) := by decide +kernel
theorem d_L_letters_98 : decode cL_letters 98 = .ok (.iconst 1, 1) := by decide +kernel
theorem d_L_letters_99 : decode cL_letters 99 = .ok (.goto 4, 3) := by decide +kernel
theorem d_L_letters_102 : decode cL_letters 102 = .ok (.iconst 0, 1) := by decide +kernel
theorem d_L_letters_103 : decode cL_letters 103 = .ok (.ireturn, 1) := by decide +kernel
theorem d_L_goesOn_0 : decode cL_goesOn 0 = .ok (.aload_n 0, 1) := by decide +kernel
theorem d_L_goesOn_1 : decode cL_goesOn 1 = .ok (.iconst 2, 1) := by decide +kernel
theorem d_L_goesOn_2 : decode cL_goesOn 2 = .ok (.invokevirtual 109, 3) := by decide +kernel
theorem d_L_goesOn_5 : decode cL_goesOn 5 = .ok (.istore_n 1, 1) := by decide +kernel
theorem d_L_goesOn_6 : decode cL_goesOn 6 = .ok (.iload_n 1, 1) := by decide +kernel
theorem d_L_goesOn_7 : decode cL_goesOn 7 = .ok (.newarray .int, 2) := by decide +kernel
theorem d_L_goesOn_9 : decode cL_goesOn 9 = .ok (.astore_n 2, 1) := by decide +kernel
theorem d_L_goesOn_10 : decode cL_goesOn 10 = .ok (.iload_n 1, 1) := by decide +kernel
theorem d_L_goesOn_11 : decode cL_goesOn 11 = .ok (.newarray .int, 2) := by decide +kernel
theorem d_L_goesOn_13 : decode cL_goesOn 13 = .ok (.astore_n 3, 1) := by decide +kernel
theorem d_L_goesOn_14 : decode cL_goesOn 14 = .ok (.iload_n 1, 1) := by decide +kernel
theorem d_L_goesOn_15 : decode cL_goesOn 15 = .ok (.newarray .int, 2) := by decide +kernel
theorem d_L_goesOn_17 : decode cL_goesOn 17 = .ok (.astore 4, 2) := by decide +kernel
theorem d_L_goesOn_19 : decode cL_goesOn 19 = .ok (.iload_n 1, 1) := by decide +kernel
theorem d_L_goesOn_20 : decode cL_goesOn 20 = .ok (.newarray .int, 2) := by decide +kernel
theorem d_L_goesOn_22 : decode cL_goesOn 22 = .ok (.astore 5, 2) := by decide +kernel
theorem d_L_goesOn_24 : decode cL_goesOn 24 = .ok (.iconst 0, 1) := by decide +kernel
theorem d_L_goesOn_25 : decode cL_goesOn 25 = .ok (.istore 6, 2) := by decide +kernel
theorem d_L_goesOn_27 : decode cL_goesOn 27 = .ok (.iload 6, 2) := by decide +kernel
theorem d_L_goesOn_29 : decode cL_goesOn 29 = .ok (.iload_n 1, 1) := by decide +kernel
theorem d_L_goesOn_30 : decode cL_goesOn 30 = .ok (.if_icmp .ge 56, 3) := by decide +kernel
theorem d_L_goesOn_33 : decode cL_goesOn 33 = .ok (.aload_n 2, 1) := by decide +kernel
theorem d_L_goesOn_34 : decode cL_goesOn 34 = .ok (.iload 6, 2) := by decide +kernel
theorem d_L_goesOn_36 : decode cL_goesOn 36 = .ok (.aload_n 0, 1) := by decide +kernel
theorem d_L_goesOn_37 : decode cL_goesOn 37 = .ok (.iload 6, 2) := by decide +kernel
theorem d_L_goesOn_39 : decode cL_goesOn 39 = .ok (.iconst 3, 1) := by decide +kernel
theorem d_L_goesOn_40 : decode cL_goesOn 40 = .ok (.invokevirtual 193, 3) := by decide +kernel
theorem d_L_goesOn_43 : decode cL_goesOn 43 = .ok (.iastore, 1) := by decide +kernel
theorem d_L_goesOn_44 : decode cL_goesOn 44 = .ok (.aload 5, 2) := by decide +kernel
theorem d_L_goesOn_46 : decode cL_goesOn 46 = .ok (.iload 6, 2) := by decide +kernel
theorem d_L_goesOn_48 : decode cL_goesOn 48 = .ok (.aload_n 0, 1) := by decide +kernel
theorem d_L_goesOn_49 : decode cL_goesOn 49 = .ok (.iload 6, 2) := by decide +kernel
theorem d_L_goesOn_51 : decode cL_goesOn 51 = .ok (.iconst 3, 1) := by decide +kernel
theorem d_L_goesOn_52 : decode cL_goesOn 52 = .ok (.invokevirtual 203, 3) := by decide +kernel
theorem d_L_goesOn_55 : decode cL_goesOn 55 = .ok (.iastore, 1) := by decide +kernel
theorem d_L_goesOn_56 : decode cL_goesOn 56 = .ok (.aload_n 3, 1) := by decide +kernel
theorem d_L_goesOn_57 : decode cL_goesOn 57 = .ok (.iload 6, 2) := by decide +kernel
theorem d_L_goesOn_59 : decode cL_goesOn 59 = .ok (.aload_n 0, 1) := by decide +kernel
theorem d_L_goesOn_60 : decode cL_goesOn 60 = .ok (.iload 6, 2) := by decide +kernel
theorem d_L_goesOn_62 : decode cL_goesOn 62 = .ok (.iconst 1, 1) := by decide +kernel
theorem d_L_goesOn_63 : decode cL_goesOn 63 = .ok (.invokevirtual 203, 3) := by decide +kernel
theorem d_L_goesOn_66 : decode cL_goesOn 66 = .ok (.iastore, 1) := by decide +kernel
theorem d_L_goesOn_67 : decode cL_goesOn 67 = .ok (.aload 4, 2) := by decide +kernel
theorem d_L_goesOn_69 : decode cL_goesOn 69 = .ok (.iload 6, 2) := by decide +kernel
theorem d_L_goesOn_71 : decode cL_goesOn 71 = .ok (.aload_n 0, 1) := by decide +kernel
theorem d_L_goesOn_72 : decode cL_goesOn 72 = .ok (.iload 6, 2) := by decide +kernel
theorem d_L_goesOn_74 : decode cL_goesOn 74 = .ok (.bipush 6, 2) := by decide +kernel
theorem d_L_goesOn_76 : decode cL_goesOn 76 = .ok (.invokevirtual 203, 3) := by decide +kernel
theorem d_L_goesOn_79 : decode cL_goesOn 79 = .ok (.iastore, 1) := by decide +kernel
theorem d_L_goesOn_80 : decode cL_goesOn 80 = .ok (.iinc 6 1, 3) := by decide +kernel
theorem d_L_goesOn_83 : decode cL_goesOn 83 = .ok (.goto (-56), 3) := by decide +kernel
theorem d_L_goesOn_86 : decode cL_goesOn 86 = .ok (.aload_n 0, 1) := by decide +kernel
theorem d_L_goesOn_87 : decode cL_goesOn 87 = .ok (.bipush 8, 2) := by decide +kernel
theorem d_L_goesOn_89 : decode cL_goesOn 89 = .ok (.invokevirtual 109, 3) := by decide +kernel
theorem d_L_goesOn_92 : decode cL_goesOn 92 = .ok (.istore 6, 2) := by decide +kernel
theorem d_L_goesOn_94 : decode cL_goesOn 94 = .ok (.aload_n 0, 1) := by decide +kernel
theorem d_L_goesOn_95 : decode cL_goesOn 95 = .ok (.iconst 3, 1) := by decide +kernel
theorem d_L_goesOn_96 : decode cL_goesOn 96 = .ok (.invokestatic 160, 3) := by decide +kernel
theorem d_L_goesOn_99 : decode cL_goesOn 99 = .ok (.ifCond .lt 16, 3) := by decide +kernel
theorem d_L_goesOn_102 : decode cL_goesOn 102 = .ok (.aload_n 0, 1) := by decide +kernel
theorem d_L_goesOn_103 : decode cL_goesOn 103 = .ok (.bipush 8, 2) := by decide +kernel
theorem d_L_goesOn_105 : decode cL_goesOn 105 = .ok (.invokevirtual 109, 3) := by decide +kernel
theorem d_L_goesOn_108 : decode cL_goesOn 108 = .ok (.iload 6, 2) := by decide +kernel
theorem d_L_goesOn_110 : decode cL_goesOn 110 = .ok (.iconst 3, 1) := by decide +kernel
theorem d_L_goesOn_111 : decode cL_goesOn 111 = .ok (.iadd, 1) := by decide +kernel
theorem d_L_goesOn_112 : decode cL_goesOn 112 = .ok (.if_icmp .eq 5, 3) := by decide +kernel
theorem d_L_goesOn_115 : decode cL_goesOn 115 = .ok (.iconst 0, 1) := by decide +kernel
theorem d_L_goesOn_116 : decode cL_goesOn 116 = .ok (.ireturn, 1) := by decide +kernel
theorem d_L_goesOn_117 : decode cL_goesOn 117 = .ok (.iconst 0, 1) := by decide +kernel
theorem d_L_goesOn_118 : decode cL_goesOn 118 = .ok (.istore 7, 2) := by decide +kernel
theorem d_L_goesOn_120 : decode cL_goesOn 120 = .ok (.iload 7, 2) := by decide +kernel
theorem d_L_goesOn_122 : decode cL_goesOn 122 = .ok (.iload_n 1, 1) := by decide +kernel
theorem d_L_goesOn_123 : decode cL_goesOn 123 = .ok (.if_icmp .ge 155, 3) := by decide +kernel
theorem d_L_goesOn_126 : decode cL_goesOn 126 = .ok (.aload_n 0, 1) := by decide +kernel
theorem d_L_goesOn_127 : decode cL_goesOn 127 = .ok (.iload 7, 2) := by decide +kernel
theorem d_L_goesOn_129 : decode cL_goesOn 129 = .ok (.bipush 6, 2) := by decide +kernel
theorem d_L_goesOn_131 : decode cL_goesOn 131 = .ok (.invokevirtual 203, 3) := by decide +kernel
theorem d_L_goesOn_134 : decode cL_goesOn 134 = .ok (.aload 4, 2) := by decide +kernel
theorem d_L_goesOn_136 : decode cL_goesOn 136 = .ok (.iload 7, 2) := by decide +kernel
theorem d_L_goesOn_138 : decode cL_goesOn 138 = .ok (.iaload, 1) := by decide +kernel
theorem d_L_goesOn_139 : decode cL_goesOn 139 = .ok (.isub, 1) := by decide +kernel
theorem d_L_goesOn_140 : decode cL_goesOn 140 = .ok (.istore 8, 2) := by decide +kernel
theorem d_L_goesOn_142 : decode cL_goesOn 142 = .ok (.aload 5, 2) := by decide +kernel
theorem d_L_goesOn_144 : decode cL_goesOn 144 = .ok (.iload 7, 2) := by decide +kernel
theorem d_L_goesOn_146 : decode cL_goesOn 146 = .ok (.iaload, 1) := by decide +kernel
theorem d_L_goesOn_147 : decode cL_goesOn 147 = .ok (.iconst 3, 1) := by decide +kernel
theorem d_L_goesOn_148 : decode cL_goesOn 148 = .ok (.if_icmp .ge 20, 3) := by decide +kernel
theorem d_L_goesOn_151 : decode cL_goesOn 151 = .ok (.aload_n 0, 1) := by decide +kernel
theorem d_L_goesOn_152 : decode cL_goesOn 152 = .ok (.aload_n 2, 1) := by decide +kernel
theorem d_L_goesOn_153 : decode cL_goesOn 153 = .ok (.iload 7, 2) := by decide +kernel
theorem d_L_goesOn_155 : decode cL_goesOn 155 = .ok (.iaload, 1) := by decide +kernel
theorem d_L_goesOn_156 : decode cL_goesOn 156 = .ok (.iconst 0, 1) := by decide +kernel
theorem d_L_goesOn_157 : decode cL_goesOn 157 = .ok (.invokevirtual 196, 3) := by decide +kernel
theorem d_L_goesOn_160 : decode cL_goesOn 160 = .ok (.iconst 2, 1) := by decide +kernel
theorem d_L_goesOn_161 : decode cL_goesOn 161 = .ok (.if_icmp .ne 7, 3) := by decide +kernel
theorem d_L_goesOn_164 : decode cL_goesOn 164 = .ok (.iconst 1, 1) := by decide +kernel
theorem d_L_goesOn_165 : decode cL_goesOn 165 = .ok (.goto 4, 3) := by decide +kernel
theorem d_L_goesOn_168 : decode cL_goesOn 168 = .ok (.iconst 0, 1) := by decide +kernel
theorem d_L_goesOn_169 : decode cL_goesOn 169 = .ok (.istore 9, 2) := by decide +kernel
theorem d_L_goesOn_171 : decode cL_goesOn 171 = .ok (.aload_n 0, 1) := by decide +kernel
theorem d_L_goesOn_172 : decode cL_goesOn 172 = .ok (.iload 7, 2) := by decide +kernel
theorem d_L_goesOn_174 : decode cL_goesOn 174 = .ok (.iconst 1, 1) := by decide +kernel
theorem d_L_goesOn_175 : decode cL_goesOn 175 = .ok (.invokevirtual 203, 3) := by decide +kernel
theorem d_L_goesOn_178 : decode cL_goesOn 178 = .ok (.aload_n 3, 1) := by decide +kernel
theorem d_L_goesOn_179 : decode cL_goesOn 179 = .ok (.iload 7, 2) := by decide +kernel
theorem d_L_goesOn_181 : decode cL_goesOn 181 = .ok (.iaload, 1) := by decide +kernel
theorem d_L_goesOn_182 : decode cL_goesOn 182 = .ok (.isub, 1) := by decide +kernel
theorem d_L_goesOn_183 : decode cL_goesOn 183 = .ok (.istore 10, 2) := by decide +kernel
theorem d_L_goesOn_185 : decode cL_goesOn 185 = .ok (.aload_n 0, 1) := by decide +kernel
theorem d_L_goesOn_186 : decode cL_goesOn 186 = .ok (.iload 7, 2) := by decide +kernel
theorem d_L_goesOn_188 : decode cL_goesOn 188 = .ok (.iconst 0, 1) := by decide +kernel
theorem d_L_goesOn_189 : decode cL_goesOn 189 = .ok (.invokevirtual 203, 3) := by decide +kernel
theorem d_L_goesOn_192 : decode cL_goesOn 192 = .ok (.aload_n 2, 1) := by decide +kernel
theorem d_L_goesOn_193 : decode cL_goesOn 193 = .ok (.iload 7, 2) := by decide +kernel
theorem d_L_goesOn_195 : decode cL_goesOn 195 = .ok (.iaload, 1) := by decide +kernel
theorem d_L_goesOn_196 : decode cL_goesOn 196 = .ok (.if_icmp .ne 74, 3) := by decide +kernel
theorem d_L_goesOn_199 : decode cL_goesOn 199 = .ok (.aload_n 0, 1) := by decide +kernel
theorem d_L_goesOn_200 : decode cL_goesOn 200 = .ok (.iload 7, 2) := by decide +kernel
theorem d_L_goesOn_202 : decode cL_goesOn 202 = .ok (.iconst 3, 1) := by decide +kernel
theorem d_L_goesOn_203 : decode cL_goesOn 203 = .ok (.invokevirtual 203, 3) := by decide +kernel
theorem d_L_goesOn_206 : decode cL_goesOn 206 = .ok (.iconst 0, 1) := by decide +kernel
theorem d_L_goesOn_207 : decode cL_goesOn 207 = .ok (.aload 5, 2) := by decide +kernel
theorem d_L_goesOn_209 : decode cL_goesOn 209 = .ok (.iload 7, 2) := by decide +kernel
theorem d_L_goesOn_211 : decode cL_goesOn 211 = .ok (.iaload, 1) := by decide +kernel
theorem d_L_goesOn_212 : decode cL_goesOn 212 = .ok (.iconst 3, 1) := by decide +kernel
theorem d_L_goesOn_213 : decode cL_goesOn 213 = .ok (.isub, 1) := by decide +kernel
theorem d_L_goesOn_214 : decode cL_goesOn 214 = .ok (.invokestatic 208, 3) := by decide +kernel
theorem d_L_goesOn_217 : decode cL_goesOn 217 = .ok (.if_icmp .ne 53, 3) := by decide +kernel
theorem d_L_goesOn_220 : decode cL_goesOn 220 = .ok (.iload 8, 2) := by decide +kernel
theorem d_L_goesOn_222 : decode cL_goesOn 222 = .ok (.iconst 3, 1) := by decide +kernel
theorem d_L_goesOn_223 : decode cL_goesOn 223 = .ok (.aload 5, 2) := by decide +kernel
theorem d_L_goesOn_225 : decode cL_goesOn 225 = .ok (.iload 7, 2) := by decide +kernel
theorem d_L_goesOn_227 : decode cL_goesOn 227 = .ok (.iaload, 1) := by decide +kernel
theorem d_L_goesOn_228 : decode cL_goesOn 228 = .ok (.invokestatic 246, 3) := by decide +kernel
theorem d_L_goesOn_231 : decode cL_goesOn 231 = .ok (.if_icmp .gt 39, 3) := by decide +kernel
theorem d_L_goesOn_234 : decode cL_goesOn 234 = .ok (.iload 9, 2) := by decide +kernel
theorem d_L_goesOn_236 : decode cL_goesOn 236 = .ok (.ifCond .ne 21, 3) := by decide +kernel
theorem d_L_goesOn_239 : decode cL_goesOn 239 = .ok (.iload 10, 2) := by decide +kernel
theorem d_L_goesOn_241 : decode cL_goesOn 241 = .ok (.iload 8, 2) := by decide +kernel
theorem d_L_goesOn_243 : decode cL_goesOn 243 = .ok (.ineg, 1) := by decide +kernel
theorem d_L_goesOn_244 : decode cL_goesOn 244 = .ok (.if_icmp .gt 26, 3) := by decide +kernel
theorem d_L_goesOn_247 : decode cL_goesOn 247 = .ok (.iload 10, 2) := by decide +kernel
theorem d_L_goesOn_249 : decode cL_goesOn 249 = .ok (.bipush (-2), 2) := by decide +kernel
theorem d_L_goesOn_251 : decode cL_goesOn 251 = .ok (.iload 8, 2) := by decide +kernel
theorem d_L_goesOn_253 : decode cL_goesOn 253 = .ok (.imul, 1) := by decide +kernel
theorem d_L_goesOn_254 : decode cL_goesOn 254 = .ok (.if_icmp .lt 16, 3) := by decide +kernel
theorem d_L_goesOn_257 : decode cL_goesOn 257 = .ok (.aload 5, 2) := by decide +kernel
theorem d_L_goesOn_259 : decode cL_goesOn 259 = .ok (.iload 7, 2) := by decide +kernel
theorem d_L_goesOn_261 : decode cL_goesOn 261 = .ok (.iaload, 1) := by decide +kernel
theorem d_L_goesOn_262 : decode cL_goesOn 262 = .ok (.ifCond .ne 10, 3) := by decide +kernel
theorem d_L_goesOn_265 : decode cL_goesOn 265 = .ok (.iload 8, 2) := by decide +kernel
theorem d_L_goesOn_267 : decode cL_goesOn 267 = .ok (.ifCond .eq 5, 3) := by decide +kernel
theorem d_L_goesOn_270 : decode cL_goesOn 270 = .ok (.iconst 0, 1) := by decide +kernel
theorem d_L_goesOn_271 : decode cL_goesOn 271 = .ok (.ireturn, 1) := by decide +kernel
theorem d_L_goesOn_272 : decode cL_goesOn 272 = .ok (.iinc 7 1, 3) := by decide +kernel
theorem d_L_goesOn_275 : decode cL_goesOn 275 = .ok (.goto (-155), 3) := by decide +kernel
theorem d_L_goesOn_278 : decode cL_goesOn 278 = .ok (.aload_n 0, 1) := by decide +kernel
theorem d_L_goesOn_279 : decode cL_goesOn 279 = .ok (.invokestatic 167, 3) := by decide +kernel
theorem d_L_goesOn_282 : decode cL_goesOn 282 = .ok (.ifCond .eq 25, 3) := by decide +kernel
theorem d_L_goesOn_285 : decode cL_goesOn 285 = .ok (.aload_n 0, 1) := by decide +kernel
theorem d_L_goesOn_286 : decode cL_goesOn 286 = .ok (.invokestatic 249, 3) := by decide +kernel
theorem d_L_goesOn_289 : decode cL_goesOn 289 = .ok (.ifCond .lt 18, 3) := by decide +kernel
theorem d_L_goesOn_292 : decode cL_goesOn 292 = .ok (.aload_n 0, 1) := by decide +kernel
theorem d_L_goesOn_293 : decode cL_goesOn 293 = .ok (.bipush 8, 2) := by decide +kernel
theorem d_L_goesOn_295 : decode cL_goesOn 295 = .ok (.invokevirtual 109, 3) := by decide +kernel
theorem d_L_goesOn_298 : decode cL_goesOn 298 = .ok (.iload 6, 2) := by decide +kernel
theorem d_L_goesOn_300 : decode cL_goesOn 300 = .ok (.if_icmp .ne 7, 3) := by decide +kernel
theorem d_L_goesOn_303 : decode cL_goesOn 303 = .ok (.iconst 1, 1) := by decide +kernel
theorem d_L_goesOn_304 : decode cL_goesOn 304 = .ok (.goto 4, 3) := by decide +kernel
theorem d_L_goesOn_307 : decode cL_goesOn 307 = .ok (.iconst 0, 1) := by decide +kernel
theorem d_L_goesOn_308 : decode cL_goesOn 308 = .ok (.ireturn, 1) := by decide +kernel
theorem d_L_sum_0 : decode cL_sum 0 = .ok (.ldc2_w 251, 3) := by decide +kernel
theorem d_L_sum_3 : decode cL_sum 3 = .ok (.lstore_n 1, 1) := by decide +kernel
theorem d_L_sum_4 : decode cL_sum 4 = .ok (.iconst 0, 1) := by decide +kernel
theorem d_L_sum_5 : decode cL_sum 5 = .ok (.istore_n 3, 1) := by decide +kernel
theorem d_L_sum_6 : decode cL_sum 6 = .ok (.iload_n 3, 1) := by decide +kernel
theorem d_L_sum_7 : decode cL_sum 7 = .ok (.bipush 17, 2) := by decide +kernel
theorem d_L_sum_9 : decode cL_sum 9 = .ok (.if_icmp .ge 38, 3) := by decide +kernel
theorem d_L_sum_12 : decode cL_sum 12 = .ok (.iload_n 3, 1) := by decide +kernel
theorem d_L_sum_13 : decode cL_sum 13 = .ok (.bipush 12, 2) := by decide +kernel
theorem d_L_sum_15 : decode cL_sum 15 = .ok (.if_icmp .eq 9, 3) := by decide +kernel
theorem d_L_sum_18 : decode cL_sum 18 = .ok (.iload_n 3, 1) := by decide +kernel
theorem d_L_sum_19 : decode cL_sum 19 = .ok (.bipush 13, 2) := by decide +kernel
theorem d_L_sum_21 : decode cL_sum 21 = .ok (.if_icmp .ne 7, 3) := by decide +kernel
theorem d_L_sum_24 : decode cL_sum 24 = .ok (.lload_n 1, 1) := by decide +kernel
theorem d_L_sum_25 : decode cL_sum 25 = .ok (.goto 15, 3) := by decide +kernel
theorem d_L_sum_28 : decode cL_sum 28 = .ok (.ldc2_w 253, 3) := by decide +kernel
theorem d_L_sum_31 : decode cL_sum 31 = .ok (.lload_n 1, 1) := by decide +kernel
theorem d_L_sum_32 : decode cL_sum 32 = .ok (.lmul, 1) := by decide +kernel
theorem d_L_sum_33 : decode cL_sum 33 = .ok (.aload_n 0, 1) := by decide +kernel
theorem d_L_sum_34 : decode cL_sum 34 = .ok (.iload_n 3, 1) := by decide +kernel
theorem d_L_sum_35 : decode cL_sum 35 = .ok (.invokevirtual 109, 3) := by decide +kernel
theorem d_L_sum_38 : decode cL_sum 38 = .ok (.i2l, 1) := by decide +kernel
theorem d_L_sum_39 : decode cL_sum 39 = .ok (.ladd, 1) := by decide +kernel
theorem d_L_sum_40 : decode cL_sum 40 = .ok (.lstore_n 1, 1) := by decide +kernel
theorem d_L_sum_41 : decode cL_sum 41 = .ok (.iinc 3 1, 3) := by decide +kernel
theorem d_L_sum_44 : decode cL_sum 44 = .ok (.goto (-38), 3) := by decide +kernel
theorem d_L_sum_47 : decode cL_sum 47 = .ok (.iconst 0, 1) := by decide +kernel
theorem d_L_sum_48 : decode cL_sum 48 = .ok (.istore_n 3, 1) := by decide +kernel
theorem d_L_sum_49 : decode cL_sum 49 = .ok (.iload_n 3, 1) := by decide +kernel
theorem d_L_sum_50 : decode cL_sum 50 = .ok (.aload_n 0, 1) := by decide +kernel
theorem d_L_sum_51 : decode cL_sum 51 = .ok (.invokestatic 145, 3) := by decide +kernel
theorem d_L_sum_54 : decode cL_sum 54 = .ok (.if_icmp .ge 34, 3) := by decide +kernel
theorem d_L_sum_57 : decode cL_sum 57 = .ok (.ldc2_w 255, 3) := by decide +kernel
theorem d_L_sum_60 : decode cL_sum 60 = .ok (.lload_n 1, 1) := by decide +kernel
theorem d_L_sum_61 : decode cL_sum 61 = .ok (.lmul, 1) := by decide +kernel
theorem d_L_sum_62 : decode cL_sum 62 = .ok (.aload_n 0, 1) := by decide +kernel
theorem d_L_sum_63 : decode cL_sum 63 = .ok (.iload_n 3, 1) := by decide +kernel
theorem d_L_sum_64 : decode cL_sum 64 = .ok (.invokevirtual 241, 3) := by decide +kernel
theorem d_L_sum_67 : decode cL_sum 67 = .ok (.i2l, 1) := by decide +kernel
theorem d_L_sum_68 : decode cL_sum 68 = .ok (.ladd, 1) := by decide +kernel
theorem d_L_sum_69 : decode cL_sum 69 = .ok (.sipush 1000, 3) := by decide +kernel
theorem d_L_sum_72 : decode cL_sum 72 = .ok (.aload_n 0, 1) := by decide +kernel
theorem d_L_sum_73 : decode cL_sum 73 = .ok (.iload_n 3, 1) := by decide +kernel
theorem d_L_sum_74 : decode cL_sum 74 = .ok (.iconst 1, 1) := by decide +kernel
theorem d_L_sum_75 : decode cL_sum 75 = .ok (.invokevirtual 196, 3) := by decide +kernel
theorem d_L_sum_78 : decode cL_sum 78 = .ok (.imul, 1) := by decide +kernel
theorem d_L_sum_79 : decode cL_sum 79 = .ok (.i2l, 1) := by decide +kernel
theorem d_L_sum_80 : decode cL_sum 80 = .ok (.ladd, 1) := by decide +kernel
theorem d_L_sum_81 : decode cL_sum 81 = .ok (.lstore_n 1, 1) := by decide +kernel
theorem d_L_sum_82 : decode cL_sum 82 = .ok (.iinc 3 1, 3) := by decide +kernel
theorem d_L_sum_85 : decode cL_sum 85 = .ok (.goto (-36), 3) := by decide +kernel
theorem d_L_sum_88 : decode cL_sum 88 = .ok (.iconst 0, 1) := by decide +kernel
theorem d_L_sum_89 : decode cL_sum 89 = .ok (.istore_n 3, 1) := by decide +kernel
theorem d_L_sum_90 : decode cL_sum 90 = .ok (.iload_n 3, 1) := by decide +kernel
theorem d_L_sum_91 : decode cL_sum 91 = .ok (.aload_n 0, 1) := by decide +kernel
theorem d_L_sum_92 : decode cL_sum 92 = .ok (.iconst 2, 1) := by decide +kernel
theorem d_L_sum_93 : decode cL_sum 93 = .ok (.invokevirtual 109, 3) := by decide +kernel
theorem d_L_sum_96 : decode cL_sum 96 = .ok (.if_icmp .ge 71, 3) := by decide +kernel
theorem d_L_sum_99 : decode cL_sum 99 = .ok (.iconst 0, 1) := by decide +kernel
theorem d_L_sum_100 : decode cL_sum 100 = .ok (.istore 4, 2) := by decide +kernel
theorem d_L_sum_102 : decode cL_sum 102 = .ok (.iload 4, 2) := by decide +kernel
theorem d_L_sum_104 : decode cL_sum 104 = .ok (.bipush 7, 2) := by decide +kernel
theorem d_L_sum_106 : decode cL_sum 106 = .ok (.if_icmp .ge 24, 3) := by decide +kernel
theorem d_L_sum_109 : decode cL_sum 109 = .ok (.ldc2_w 257, 3) := by decide +kernel
theorem d_L_sum_112 : decode cL_sum 112 = .ok (.lload_n 1, 1) := by decide +kernel
theorem d_L_sum_113 : decode cL_sum 113 = .ok (.lmul, 1) := by decide +kernel
theorem d_L_sum_114 : decode cL_sum 114 = .ok (.aload_n 0, 1) := by decide +kernel
theorem d_L_sum_115 : decode cL_sum 115 = .ok (.iload_n 3, 1) := by decide +kernel
theorem d_L_sum_116 : decode cL_sum 116 = .ok (.iload 4, 2) := by decide +kernel
theorem d_L_sum_118 : decode cL_sum 118 = .ok (.invokevirtual 203, 3) := by decide +kernel
theorem d_L_sum_121 : decode cL_sum 121 = .ok (.i2l, 1) := by decide +kernel
theorem d_L_sum_122 : decode cL_sum 122 = .ok (.ladd, 1) := by decide +kernel
theorem d_L_sum_123 : decode cL_sum 123 = .ok (.lstore_n 1, 1) := by decide +kernel
theorem d_L_sum_124 : decode cL_sum 124 = .ok (.iinc 4 1, 3) := by decide +kernel
theorem d_L_sum_127 : decode cL_sum 127 = .ok (.goto (-25), 3) := by decide +kernel
theorem d_L_sum_130 : decode cL_sum 130 = .ok (.iconst 1, 1) := by decide +kernel
theorem d_L_sum_131 : decode cL_sum 131 = .ok (.istore 4, 2) := by decide +kernel
theorem d_L_sum_133 : decode cL_sum 133 = .ok (.iload 4, 2) := by decide +kernel
theorem d_L_sum_135 : decode cL_sum 135 = .ok (.bipush 12, 2) := by decide +kernel
theorem d_L_sum_137 : decode cL_sum 137 = .ok (.if_icmp .ge 24, 3) := by decide +kernel
theorem d_L_sum_140 : decode cL_sum 140 = .ok (.ldc2_w 259, 3) := by decide +kernel
theorem d_L_sum_143 : decode cL_sum 143 = .ok (.lload_n 1, 1) := by decide +kernel
theorem d_L_sum_144 : decode cL_sum 144 = .ok (.lmul, 1) := by decide +kernel
theorem d_L_sum_145 : decode cL_sum 145 = .ok (.aload_n 0, 1) := by decide +kernel
theorem d_L_sum_146 : decode cL_sum 146 = .ok (.iload_n 3, 1) := by decide +kernel
theorem d_L_sum_147 : decode cL_sum 147 = .ok (.iload 4, 2) := by decide +kernel
theorem d_L_sum_149 : decode cL_sum 149 = .ok (.invokevirtual 193, 3) := by decide +kernel
theorem d_L_sum_152 : decode cL_sum 152 = .ok (.i2l, 1) := by decide +kernel
theorem d_L_sum_153 : decode cL_sum 153 = .ok (.ladd, 1) := by decide +kernel
theorem d_L_sum_154 : decode cL_sum 154 = .ok (.lstore_n 1, 1) := by decide +kernel
theorem d_L_sum_155 : decode cL_sum 155 = .ok (.iinc 4 1, 3) := by decide +kernel
theorem d_L_sum_158 : decode cL_sum 158 = .ok (.goto (-25), 3) := by decide +kernel
theorem d_L_sum_161 : decode cL_sum 161 = .ok (.iinc 3 1, 3) := by decide +kernel
theorem d_L_sum_164 : decode cL_sum 164 = .ok (.goto (-74), 3) := by decide +kernel
theorem d_L_sum_167 : decode cL_sum 167 = .ok (.iconst 0, 1) := by decide +kernel
theorem d_L_sum_168 : decode cL_sum 168 = .ok (.istore_n 3, 1) := by decide +kernel
theorem d_L_sum_169 : decode cL_sum 169 = .ok (.iload_n 3, 1) := by decide +kernel
theorem d_L_sum_170 : decode cL_sum 170 = .ok (.aload_n 0, 1) := by decide +kernel
theorem d_L_sum_171 : decode cL_sum 171 = .ok (.iconst 3, 1) := by decide +kernel
theorem d_L_sum_172 : decode cL_sum 172 = .ok (.invokevirtual 109, 3) := by decide +kernel
theorem d_L_sum_175 : decode cL_sum 175 = .ok (.if_icmp .ge 40, 3) := by decide +kernel
theorem d_L_sum_178 : decode cL_sum 178 = .ok (.iconst 0, 1) := by decide +kernel
theorem d_L_sum_179 : decode cL_sum 179 = .ok (.istore 4, 2) := by decide +kernel
theorem d_L_sum_181 : decode cL_sum 181 = .ok (.iload 4, 2) := by decide +kernel
theorem d_L_sum_183 : decode cL_sum 183 = .ok (.bipush 6, 2) := by decide +kernel
theorem d_L_sum_185 : decode cL_sum 185 = .ok (.if_icmp .ge 24, 3) := by decide +kernel
theorem d_L_sum_188 : decode cL_sum 188 = .ok (.ldc2_w 261, 3) := by decide +kernel
theorem d_L_sum_191 : decode cL_sum 191 = .ok (.lload_n 1, 1) := by decide +kernel
theorem d_L_sum_192 : decode cL_sum 192 = .ok (.lmul, 1) := by decide +kernel
theorem d_L_sum_193 : decode cL_sum 193 = .ok (.aload_n 0, 1) := by decide +kernel
theorem d_L_sum_194 : decode cL_sum 194 = .ok (.iload_n 3, 1) := by decide +kernel
theorem d_L_sum_195 : decode cL_sum 195 = .ok (.iload 4, 2) := by decide +kernel
theorem d_L_sum_197 : decode cL_sum 197 = .ok (.invokevirtual 225, 3) := by decide +kernel
theorem d_L_sum_200 : decode cL_sum 200 = .ok (.i2l, 1) := by decide +kernel
theorem d_L_sum_201 : decode cL_sum 201 = .ok (.ladd, 1) := by decide +kernel
theorem d_L_sum_202 : decode cL_sum 202 = .ok (.lstore_n 1, 1) := by decide +kernel
theorem d_L_sum_203 : decode cL_sum 203 = .ok (.iinc 4 1, 3) := by decide +kernel
theorem d_L_sum_206 : decode cL_sum 206 = .ok (.goto (-25), 3) := by decide +kernel
theorem d_L_sum_209 : decode cL_sum 209 = .ok (.iinc 3 1, 3) := by decide +kernel
theorem d_L_sum_212 : decode cL_sum 212 = .ok (.goto (-43), 3) := by decide +kernel
theorem d_L_sum_215 : decode cL_sum 215 = .ok (.lload_n 1, 1) := by decide +kernel
theorem d_L_sum_216 : decode cL_sum 216 = .ok (.lreturn, 1) := by decide +kernel
theorem d_L_undone_0 : decode cL_undone 0 = .ok (.bipush 9, 2) := by decide +kernel
theorem d_L_undone_2 : decode cL_undone 2 = .ok (.newarray .long, 2) := by decide +kernel
theorem d_L_undone_4 : decode cL_undone 4 = .ok (.astore_n 2, 1) := by decide +kernel
theorem d_L_undone_5 : decode cL_undone 5 = .ok (.iconst 0, 1) := by decide +kernel
theorem d_L_undone_6 : decode cL_undone 6 = .ok (.istore_n 3, 1) := by decide +kernel
theorem d_L_undone_7 : decode cL_undone 7 = .ok (.iconst 0, 1) := by decide +kernel
theorem d_L_undone_8 : decode cL_undone 8 = .ok (.istore 4, 2) := by decide +kernel
theorem d_L_undone_10 : decode cL_undone 10 = .ok (.iload 4, 2) := by decide +kernel
theorem d_L_undone_12 : decode cL_undone 12 = .ok (.bipush 7, 2) := by decide +kernel
theorem d_L_undone_14 : decode cL_undone 14 = .ok (.if_icmp .ge 357, 3) := by decide +kernel
theorem d_L_undone_17 : decode cL_undone 17 = .ok (.aload_n 0, 1) := by decide +kernel
theorem d_L_undone_18 : decode cL_undone 18 = .ok (.bipush 36, 2) := by decide +kernel
theorem d_L_undone_20 : decode cL_undone 20 = .ok (.iload 4, 2) := by decide +kernel
theorem d_L_undone_22 : decode cL_undone 22 = .ok (.iadd, 1) := by decide +kernel
theorem d_L_undone_23 : decode cL_undone 23 = .ok (.invokestatic 113, 3) := by decide +kernel
theorem d_L_undone_26 : decode cL_undone 26 = .ok (.iconst 1, 1) := by decide +kernel
theorem d_L_undone_27 : decode cL_undone 27 = .ok (.iushr, 1) := by decide +kernel
theorem d_L_undone_28 : decode cL_undone 28 = .ok (.istore 5, 2) := by decide +kernel
theorem d_L_undone_30 : decode cL_undone 30 = .ok (.aload_n 2, 1) := by decide +kernel
theorem d_L_undone_31 : decode cL_undone 31 = .ok (.iload_n 3, 1) := by decide +kernel
theorem d_L_undone_32 : decode cL_undone 32 = .ok (.aload_n 1, 1) := by decide +kernel
theorem d_L_undone_33 : decode cL_undone 33 = .ok (.invokestatic 263, 3) := by decide +kernel
theorem d_L_undone_36 : decode cL_undone 36 = .ok (.lastore, 1) := by decide +kernel
theorem d_L_undone_37 : decode cL_undone 37 = .ok (.iload 5, 2) := by decide +kernel
theorem d_L_undone_39 : decode cL_undone 39 = .ok (.bipush 11, 2) := by decide +kernel
theorem d_L_undone_41 : decode cL_undone 41 = .ok (.irem, 1) := by decide +kernel
theorem d_L_undone_42 : decode cL_undone 42 = .ok (.tableswitch 258 0 9 #[54, 78, 93, 128, 150, 165, 181, 197, 220, 243], 54) := by decide +kernel
theorem d_L_undone_96 : decode cL_undone 96 = .ok (.aload_n 1, 1) := by decide +kernel
theorem d_L_undone_97 : decode cL_undone 97 = .ok (.iload 5, 2) := by decide +kernel
theorem d_L_undone_99 : decode cL_undone 99 = .ok (.iconst 4, 1) := by decide +kernel
theorem d_L_undone_100 : decode cL_undone 100 = .ok (.iushr, 1) := by decide +kernel
theorem d_L_undone_101 : decode cL_undone 101 = .ok (.bipush 30, 2) := by decide +kernel
theorem d_L_undone_103 : decode cL_undone 103 = .ok (.irem, 1) := by decide +kernel
theorem d_L_undone_104 : decode cL_undone 104 = .ok (.iload 5, 2) := by decide +kernel
theorem d_L_undone_106 : decode cL_undone 106 = .ok (.bipush 9, 2) := by decide +kernel
theorem d_L_undone_108 : decode cL_undone 108 = .ok (.iushr, 1) := by decide +kernel
theorem d_L_undone_109 : decode cL_undone 109 = .ok (.bipush 110, 2) := by decide +kernel
theorem d_L_undone_111 : decode cL_undone 111 = .ok (.irem, 1) := by decide +kernel
theorem d_L_undone_112 : decode cL_undone 112 = .ok (.invokestatic 148, 3) := by decide +kernel
theorem d_L_undone_115 : decode cL_undone 115 = .ok (.istore 6, 2) := by decide +kernel
theorem d_L_undone_117 : decode cL_undone 117 = .ok (.goto 217, 3) := by decide +kernel
theorem d_L_undone_120 : decode cL_undone 120 = .ok (.aload_n 1, 1) := by decide +kernel
theorem d_L_undone_121 : decode cL_undone 121 = .ok (.iload 5, 2) := by decide +kernel
theorem d_L_undone_123 : decode cL_undone 123 = .ok (.iconst 4, 1) := by decide +kernel
theorem d_L_undone_124 : decode cL_undone 124 = .ok (.iushr, 1) := by decide +kernel
theorem d_L_undone_125 : decode cL_undone 125 = .ok (.iconst 5, 1) := by decide +kernel
theorem d_L_undone_126 : decode cL_undone 126 = .ok (.irem, 1) := by decide +kernel
theorem d_L_undone_127 : decode cL_undone 127 = .ok (.invokestatic 267, 3) := by decide +kernel
theorem d_L_undone_130 : decode cL_undone 130 = .ok (.istore 6, 2) := by decide +kernel
theorem d_L_undone_132 : decode cL_undone 132 = .ok (.goto 202, 3) := by decide +kernel
theorem d_L_undone_135 : decode cL_undone 135 = .ok (.aload_n 1, 1) := by decide +kernel
theorem d_L_undone_136 : decode cL_undone 136 = .ok (.iload 5, 2) := by decide +kernel
theorem d_L_undone_138 : decode cL_undone 138 = .ok (.iconst 4, 1) := by decide +kernel
theorem d_L_undone_139 : decode cL_undone 139 = .ok (.iushr, 1) := by decide +kernel
theorem d_L_undone_140 : decode cL_undone 140 = .ok (.bipush 9, 2) := by decide +kernel
theorem d_L_undone_142 : decode cL_undone 142 = .ok (.irem, 1) := by decide +kernel
theorem d_L_undone_143 : decode cL_undone 143 = .ok (.iload 5, 2) := by decide +kernel
theorem d_L_undone_145 : decode cL_undone 145 = .ok (.bipush 8, 2) := by decide +kernel
theorem d_L_undone_147 : decode cL_undone 147 = .ok (.iushr, 1) := by decide +kernel
theorem d_L_undone_148 : decode cL_undone 148 = .ok (.bipush 30, 2) := by decide +kernel
theorem d_L_undone_150 : decode cL_undone 150 = .ok (.irem, 1) := by decide +kernel
theorem d_L_undone_151 : decode cL_undone 151 = .ok (.iload 5, 2) := by decide +kernel
theorem d_L_undone_153 : decode cL_undone 153 = .ok (.bipush 13, 2) := by decide +kernel
theorem d_L_undone_155 : decode cL_undone 155 = .ok (.iushr, 1) := by decide +kernel
theorem d_L_undone_156 : decode cL_undone 156 = .ok (.bipush 30, 2) := by decide +kernel
theorem d_L_undone_158 : decode cL_undone 158 = .ok (.irem, 1) := by decide +kernel
theorem d_L_undone_159 : decode cL_undone 159 = .ok (.iconst 1, 1) := by decide +kernel
theorem d_L_undone_160 : decode cL_undone 160 = .ok (.isub, 1) := by decide +kernel
theorem d_L_undone_161 : decode cL_undone 161 = .ok (.iconst (-1), 1) := by decide +kernel
theorem d_L_undone_162 : decode cL_undone 162 = .ok (.invokestatic 153, 3) := by decide +kernel
theorem d_L_undone_165 : decode cL_undone 165 = .ok (.istore 6, 2) := by decide +kernel
theorem d_L_undone_167 : decode cL_undone 167 = .ok (.goto 167, 3) := by decide +kernel
theorem d_L_undone_170 : decode cL_undone 170 = .ok (.aload_n 1, 1) := by decide +kernel
theorem d_L_undone_171 : decode cL_undone 171 = .ok (.iload 5, 2) := by decide +kernel
theorem d_L_undone_173 : decode cL_undone 173 = .ok (.iconst 4, 1) := by decide +kernel
theorem d_L_undone_174 : decode cL_undone 174 = .ok (.iushr, 1) := by decide +kernel
theorem d_L_undone_175 : decode cL_undone 175 = .ok (.iconst 5, 1) := by decide +kernel
theorem d_L_undone_176 : decode cL_undone 176 = .ok (.irem, 1) := by decide +kernel
theorem d_L_undone_177 : decode cL_undone 177 = .ok (.iload 5, 2) := by decide +kernel
theorem d_L_undone_179 : decode cL_undone 179 = .ok (.bipush 7, 2) := by decide +kernel
theorem d_L_undone_181 : decode cL_undone 181 = .ok (.iushr, 1) := by decide +kernel
theorem d_L_undone_182 : decode cL_undone 182 = .ok (.iconst 5, 1) := by decide +kernel
theorem d_L_undone_183 : decode cL_undone 183 = .ok (.irem, 1) := by decide +kernel
theorem d_L_undone_184 : decode cL_undone 184 = .ok (.invokestatic 156, 3) := by decide +kernel
theorem d_L_undone_187 : decode cL_undone 187 = .ok (.istore 6, 2) := by decide +kernel
theorem d_L_undone_189 : decode cL_undone 189 = .ok (.goto 145, 3) := by decide +kernel
theorem d_L_undone_192 : decode cL_undone 192 = .ok (.aload_n 1, 1) := by decide +kernel
theorem d_L_undone_193 : decode cL_undone 193 = .ok (.iload 5, 2) := by decide +kernel
theorem d_L_undone_195 : decode cL_undone 195 = .ok (.iconst 4, 1) := by decide +kernel
theorem d_L_undone_196 : decode cL_undone 196 = .ok (.iushr, 1) := by decide +kernel
theorem d_L_undone_197 : decode cL_undone 197 = .ok (.iconst 5, 1) := by decide +kernel
theorem d_L_undone_198 : decode cL_undone 198 = .ok (.irem, 1) := by decide +kernel
theorem d_L_undone_199 : decode cL_undone 199 = .ok (.invokestatic 269, 3) := by decide +kernel
theorem d_L_undone_202 : decode cL_undone 202 = .ok (.istore 6, 2) := by decide +kernel
theorem d_L_undone_204 : decode cL_undone 204 = .ok (.goto 130, 3) := by decide +kernel
theorem d_L_undone_207 : decode cL_undone 207 = .ok (.aload_n 1, 1) := by decide +kernel
theorem d_L_undone_208 : decode cL_undone 208 = .ok (.iload 5, 2) := by decide +kernel
theorem d_L_undone_210 : decode cL_undone 210 = .ok (.iconst 4, 1) := by decide +kernel
theorem d_L_undone_211 : decode cL_undone 211 = .ok (.iushr, 1) := by decide +kernel
theorem d_L_undone_212 : decode cL_undone 212 = .ok (.bipush 30, 2) := by decide +kernel
theorem d_L_undone_214 : decode cL_undone 214 = .ok (.irem, 1) := by decide +kernel
theorem d_L_undone_215 : decode cL_undone 215 = .ok (.invokestatic 271, 3) := by decide +kernel
theorem d_L_undone_218 : decode cL_undone 218 = .ok (.istore 6, 2) := by decide +kernel
theorem d_L_undone_220 : decode cL_undone 220 = .ok (.goto 114, 3) := by decide +kernel
theorem d_L_undone_223 : decode cL_undone 223 = .ok (.aload_n 1, 1) := by decide +kernel
theorem d_L_undone_224 : decode cL_undone 224 = .ok (.iload 5, 2) := by decide +kernel
theorem d_L_undone_226 : decode cL_undone 226 = .ok (.iconst 4, 1) := by decide +kernel
theorem d_L_undone_227 : decode cL_undone 227 = .ok (.iushr, 1) := by decide +kernel
theorem d_L_undone_228 : decode cL_undone 228 = .ok (.bipush 30, 2) := by decide +kernel
theorem d_L_undone_230 : decode cL_undone 230 = .ok (.irem, 1) := by decide +kernel
theorem d_L_undone_231 : decode cL_undone 231 = .ok (.invokestatic 273, 3) := by decide +kernel
theorem d_L_undone_234 : decode cL_undone 234 = .ok (.istore 6, 2) := by decide +kernel
theorem d_L_undone_236 : decode cL_undone 236 = .ok (.goto 98, 3) := by decide +kernel
theorem d_L_undone_239 : decode cL_undone 239 = .ok (.aload_n 1, 1) := by decide +kernel
theorem d_L_undone_240 : decode cL_undone 240 = .ok (.iload 5, 2) := by decide +kernel
theorem d_L_undone_242 : decode cL_undone 242 = .ok (.iconst 4, 1) := by decide +kernel
theorem d_L_undone_243 : decode cL_undone 243 = .ok (.iushr, 1) := by decide +kernel
theorem d_L_undone_244 : decode cL_undone 244 = .ok (.iconst 3, 1) := by decide +kernel
theorem d_L_undone_245 : decode cL_undone 245 = .ok (.irem, 1) := by decide +kernel
theorem d_L_undone_246 : decode cL_undone 246 = .ok (.iload 5, 2) := by decide +kernel
theorem d_L_undone_248 : decode cL_undone 248 = .ok (.bipush 6, 2) := by decide +kernel
theorem d_L_undone_250 : decode cL_undone 250 = .ok (.iushr, 1) := by decide +kernel
theorem d_L_undone_251 : decode cL_undone 251 = .ok (.bipush 25, 2) := by decide +kernel
theorem d_L_undone_253 : decode cL_undone 253 = .ok (.irem, 1) := by decide +kernel
theorem d_L_undone_254 : decode cL_undone 254 = .ok (.invokestatic 142, 3) := by decide +kernel
theorem d_L_undone_257 : decode cL_undone 257 = .ok (.istore 6, 2) := by decide +kernel
theorem d_L_undone_259 : decode cL_undone 259 = .ok (.goto 75, 3) := by decide +kernel
theorem d_L_undone_262 : decode cL_undone 262 = .ok (.aload_n 1, 1) := by decide +kernel
theorem d_L_undone_263 : decode cL_undone 263 = .ok (.iload 5, 2) := by decide +kernel
theorem d_L_undone_265 : decode cL_undone 265 = .ok (.iconst 4, 1) := by decide +kernel
theorem d_L_undone_266 : decode cL_undone 266 = .ok (.iushr, 1) := by decide +kernel
theorem d_L_undone_267 : decode cL_undone 267 = .ok (.iconst 5, 1) := by decide +kernel
theorem d_L_undone_268 : decode cL_undone 268 = .ok (.irem, 1) := by decide +kernel
theorem d_L_undone_269 : decode cL_undone 269 = .ok (.iload 5, 2) := by decide +kernel
theorem d_L_undone_271 : decode cL_undone 271 = .ok (.bipush 7, 2) := by decide +kernel
theorem d_L_undone_273 : decode cL_undone 273 = .ok (.iushr, 1) := by decide +kernel
theorem d_L_undone_274 : decode cL_undone 274 = .ok (.bipush 30, 2) := by decide +kernel
theorem d_L_undone_276 : decode cL_undone 276 = .ok (.irem, 1) := by decide +kernel
theorem d_L_undone_277 : decode cL_undone 277 = .ok (.invokestatic 158, 3) := by decide +kernel
theorem d_L_undone_280 : decode cL_undone 280 = .ok (.istore 6, 2) := by decide +kernel
theorem d_L_undone_282 : decode cL_undone 282 = .ok (.goto 52, 3) := by decide +kernel
theorem d_L_undone_285 : decode cL_undone 285 = .ok (.aload_n 1, 1) := by decide +kernel
theorem d_L_undone_286 : decode cL_undone 286 = .ok (.iload 5, 2) := by decide +kernel
theorem d_L_undone_288 : decode cL_undone 288 = .ok (.iconst 4, 1) := by decide +kernel
theorem d_L_undone_289 : decode cL_undone 289 = .ok (.iushr, 1) := by decide +kernel
theorem d_L_undone_290 : decode cL_undone 290 = .ok (.iconst 5, 1) := by decide +kernel
theorem d_L_undone_291 : decode cL_undone 291 = .ok (.irem, 1) := by decide +kernel
theorem d_L_undone_292 : decode cL_undone 292 = .ok (.invokestatic 275, 3) := by decide +kernel
theorem d_L_undone_295 : decode cL_undone 295 = .ok (.istore 6, 2) := by decide +kernel
theorem d_L_undone_297 : decode cL_undone 297 = .ok (.goto 37, 3) := by decide +kernel
theorem d_L_undone_300 : decode cL_undone 300 = .ok (.iload 5, 2) := by decide +kernel
theorem d_L_undone_302 : decode cL_undone 302 = .ok (.iconst 4, 1) := by decide +kernel
theorem d_L_undone_303 : decode cL_undone 303 = .ok (.iushr, 1) := by decide +kernel
theorem d_L_undone_304 : decode cL_undone 304 = .ok (.iconst 4, 1) := by decide +kernel
theorem d_L_undone_305 : decode cL_undone 305 = .ok (.irem, 1) := by decide +kernel
theorem d_L_undone_306 : decode cL_undone 306 = .ok (.ifCond .ne 13, 3) := by decide +kernel
theorem d_L_undone_309 : decode cL_undone 309 = .ok (.aload_n 1, 1) := by decide +kernel
theorem d_L_undone_310 : decode cL_undone 310 = .ok (.ldc_w 277, 3) := by decide +kernel
theorem d_L_undone_313 : decode cL_undone 313 = .ok (.invokestatic 139, 3) := by decide +kernel
theorem d_L_undone_316 : decode cL_undone 316 = .ok (.goto 16, 3) := by decide +kernel
theorem d_L_undone_319 : decode cL_undone 319 = .ok (.aload_n 1, 1) := by decide +kernel
theorem d_L_undone_320 : decode cL_undone 320 = .ok (.iconst 1, 1) := by decide +kernel
theorem d_L_undone_321 : decode cL_undone 321 = .ok (.iload 5, 2) := by decide +kernel
theorem d_L_undone_323 : decode cL_undone 323 = .ok (.bipush 6, 2) := by decide +kernel
theorem d_L_undone_325 : decode cL_undone 325 = .ok (.iushr, 1) := by decide +kernel
theorem d_L_undone_326 : decode cL_undone 326 = .ok (.iconst 5, 1) := by decide +kernel
theorem d_L_undone_327 : decode cL_undone 327 = .ok (.irem, 1) := by decide +kernel
theorem d_L_undone_328 : decode cL_undone 328 = .ok (.iadd, 1) := by decide +kernel
theorem d_L_undone_329 : decode cL_undone 329 = .ok (.invokestatic 160, 3) := by decide +kernel
theorem d_L_undone_332 : decode cL_undone 332 = .ok (.istore 6, 2) := by decide +kernel
theorem d_L_undone_334 : decode cL_undone 334 = .ok (.iload 6, 2) := by decide +kernel
theorem d_L_undone_336 : decode cL_undone 336 = .ok (.ifCond .ge 16, 3) := by decide +kernel
theorem d_L_undone_339 : decode cL_undone 339 = .ok (.aload_n 1, 1) := by decide +kernel
theorem d_L_undone_340 : decode cL_undone 340 = .ok (.invokestatic 263, 3) := by decide +kernel
theorem d_L_undone_343 : decode cL_undone 343 = .ok (.aload_n 2, 1) := by decide +kernel
theorem d_L_undone_344 : decode cL_undone 344 = .ok (.iload_n 3, 1) := by decide +kernel
theorem d_L_undone_345 : decode cL_undone 345 = .ok (.laload, 1) := by decide +kernel
theorem d_L_undone_346 : decode cL_undone 346 = .ok (.lcmp, 1) := by decide +kernel
theorem d_L_undone_347 : decode cL_undone 347 = .ok (.ifCond .eq 5, 3) := by decide +kernel
theorem d_L_undone_350 : decode cL_undone 350 = .ok (.iconst 0, 1) := by decide +kernel
theorem d_L_undone_351 : decode cL_undone 351 = .ok (.ireturn, 1) := by decide +kernel
theorem d_L_undone_352 : decode cL_undone 352 = .ok (.iload_n 3, 1) := by decide +kernel
theorem d_L_undone_353 : decode cL_undone 353 = .ok (.iload 6, 2) := by decide +kernel
theorem d_L_undone_355 : decode cL_undone 355 = .ok (.ifCond .ge 7, 3) := by decide +kernel
theorem d_L_undone_358 : decode cL_undone 358 = .ok (.iconst 0, 1) := by decide +kernel
theorem d_L_undone_359 : decode cL_undone 359 = .ok (.goto 4, 3) := by decide +kernel
theorem d_L_undone_362 : decode cL_undone 362 = .ok (.iconst 1, 1) := by decide +kernel
theorem d_L_undone_363 : decode cL_undone 363 = .ok (.iadd, 1) := by decide +kernel
theorem d_L_undone_364 : decode cL_undone 364 = .ok (.istore_n 3, 1) := by decide +kernel
theorem d_L_undone_365 : decode cL_undone 365 = .ok (.iinc 4 1, 3) := by decide +kernel
theorem d_L_undone_368 : decode cL_undone 368 = .ok (.goto (-358), 3) := by decide +kernel
theorem d_L_undone_371 : decode cL_undone 371 = .ok (.iload_n 3, 1) := by decide +kernel
theorem d_L_undone_372 : decode cL_undone 372 = .ok (.iconst 1, 1) := by decide +kernel
theorem d_L_undone_373 : decode cL_undone 373 = .ok (.isub, 1) := by decide +kernel
theorem d_L_undone_374 : decode cL_undone 374 = .ok (.istore 4, 2) := by decide +kernel
theorem d_L_undone_376 : decode cL_undone 376 = .ok (.iload 4, 2) := by decide +kernel
theorem d_L_undone_378 : decode cL_undone 378 = .ok (.ifCond .lt 30, 3) := by decide +kernel
theorem d_L_undone_381 : decode cL_undone 381 = .ok (.aload_n 1, 1) := by decide +kernel
theorem d_L_undone_382 : decode cL_undone 382 = .ok (.invokestatic 249, 3) := by decide +kernel
theorem d_L_undone_385 : decode cL_undone 385 = .ok (.ifCond .lt 15, 3) := by decide +kernel
theorem d_L_undone_388 : decode cL_undone 388 = .ok (.aload_n 1, 1) := by decide +kernel
theorem d_L_undone_389 : decode cL_undone 389 = .ok (.invokestatic 263, 3) := by decide +kernel
theorem d_L_undone_392 : decode cL_undone 392 = .ok (.aload_n 2, 1) := by decide +kernel
theorem d_L_undone_393 : decode cL_undone 393 = .ok (.iload 4, 2) := by decide +kernel
theorem d_L_undone_395 : decode cL_undone 395 = .ok (.laload, 1) := by decide +kernel
theorem d_L_undone_396 : decode cL_undone 396 = .ok (.lcmp, 1) := by decide +kernel
theorem d_L_undone_397 : decode cL_undone 397 = .ok (.ifCond .eq 5, 3) := by decide +kernel
theorem d_L_undone_400 : decode cL_undone 400 = .ok (.iconst 0, 1) := by decide +kernel
theorem d_L_undone_401 : decode cL_undone 401 = .ok (.ireturn, 1) := by decide +kernel
theorem d_L_undone_402 : decode cL_undone 402 = .ok (.iinc 4 (-1), 3) := by decide +kernel
theorem d_L_undone_405 : decode cL_undone 405 = .ok (.goto (-29), 3) := by decide +kernel
theorem d_L_undone_408 : decode cL_undone 408 = .ok (.iconst 1, 1) := by decide +kernel
theorem d_L_undone_409 : decode cL_undone 409 = .ok (.ireturn, 1) := by decide +kernel
theorem d_L_law_0 : decode cL_law 0 = .ok (.aload_n 0, 1) := by decide +kernel
theorem d_L_law_1 : decode cL_law 1 = .ok (.invokestatic 163, 3) := by decide +kernel
theorem d_L_law_4 : decode cL_law 4 = .ok (.astore_n 1, 1) := by decide +kernel
theorem d_L_law_5 : decode cL_law 5 = .ok (.aload_n 1, 1) := by decide +kernel
theorem d_L_law_6 : decode cL_law 6 = .ok (.ifnull 66, 3) := by decide +kernel
theorem d_L_law_9 : decode cL_law 9 = .ok (.aload_n 1, 1) := by decide +kernel
theorem d_L_law_10 : decode cL_law 10 = .ok (.invokestatic 167, 3) := by decide +kernel
theorem d_L_law_13 : decode cL_law 13 = .ok (.ifCond .eq 59, 3) := by decide +kernel
theorem d_L_law_16 : decode cL_law 16 = .ok (.aload_n 0, 1) := by decide +kernel
theorem d_L_law_17 : decode cL_law 17 = .ok (.aload_n 1, 1) := by decide +kernel
theorem d_L_law_18 : decode cL_law 18 = .ok (.invokestatic 171, 3) := by decide +kernel
theorem d_L_law_21 : decode cL_law 21 = .ok (.ifCond .eq 51, 3) := by decide +kernel
theorem d_L_law_24 : decode cL_law 24 = .ok (.aload_n 0, 1) := by decide +kernel
theorem d_L_law_25 : decode cL_law 25 = .ok (.aload_n 1, 1) := by decide +kernel
theorem d_L_law_26 : decode cL_law 26 = .ok (.invokestatic 175, 3) := by decide +kernel
theorem d_L_law_29 : decode cL_law 29 = .ok (.ifCond .eq 43, 3) := by decide +kernel
theorem d_L_law_32 : decode cL_law 32 = .ok (.aload_n 1, 1) := by decide +kernel
theorem d_L_law_33 : decode cL_law 33 = .ok (.invokestatic 178, 3) := by decide +kernel
theorem d_L_law_36 : decode cL_law 36 = .ok (.ifCond .eq 36, 3) := by decide +kernel
theorem d_L_law_39 : decode cL_law 39 = .ok (.aload_n 1, 1) := by decide +kernel
theorem d_L_law_40 : decode cL_law 40 = .ok (.invokestatic 181, 3) := by decide +kernel
theorem d_L_law_43 : decode cL_law 43 = .ok (.ifCond .eq 29, 3) := by decide +kernel
theorem d_L_law_46 : decode cL_law 46 = .ok (.aload_n 1, 1) := by decide +kernel
theorem d_L_law_47 : decode cL_law 47 = .ok (.invokestatic 184, 3) := by decide +kernel
theorem d_L_law_50 : decode cL_law 50 = .ok (.ifCond .eq 22, 3) := by decide +kernel
theorem d_L_law_53 : decode cL_law 53 = .ok (.aload_n 1, 1) := by decide +kernel
theorem d_L_law_54 : decode cL_law 54 = .ok (.invokestatic 187, 3) := by decide +kernel
theorem d_L_law_57 : decode cL_law 57 = .ok (.ifCond .eq 15, 3) := by decide +kernel
theorem d_L_law_60 : decode cL_law 60 = .ok (.aload_n 0, 1) := by decide +kernel
theorem d_L_law_61 : decode cL_law 61 = .ok (.aload_n 1, 1) := by decide +kernel
theorem d_L_law_62 : decode cL_law 62 = .ok (.invokestatic 190, 3) := by decide +kernel
theorem d_L_law_65 : decode cL_law 65 = .ok (.ifCond .eq 7, 3) := by decide +kernel
theorem d_L_law_68 : decode cL_law 68 = .ok (.iconst 1, 1) := by decide +kernel
theorem d_L_law_69 : decode cL_law 69 = .ok (.goto 4, 3) := by decide +kernel
theorem d_L_law_72 : decode cL_law 72 = .ok (.iconst 0, 1) := by decide +kernel
theorem d_L_law_73 : decode cL_law 73 = .ok (.ireturn, 1) := by decide +kernel
