/-! decode rows (printed by program) -/
theorem d_J0_length_8abf5_0 : decode cJ0_length_8abf5 0 = .ok (.aload_n 0, 1) := by decide +kernel
theorem d_J0_length_8abf5_1 : decode cJ0_length_8abf5 1 = .ok (.getfield 9, 3) := by decide +kernel
theorem d_J0_length_8abf5_4 : decode cJ0_length_8abf5 4 = .ok (.arraylength, 1) := by decide +kernel
theorem d_J0_length_8abf5_5 : decode cJ0_length_8abf5 5 = .ok (.aload_n 0, 1) := by decide +kernel
theorem d_J0_length_8abf5_6 : decode cJ0_length_8abf5 6 = .ok (.invokevirtual 335, 3) := by decide +kernel
theorem d_J0_length_8abf5_9 : decode cJ0_length_8abf5 9 = .ok (.ishr, 1) := by decide +kernel
theorem d_J0_length_8abf5_10 : decode cJ0_length_8abf5 10 = .ok (.ireturn, 1) := by decide +kernel
theorem d_J0_charAt_5068e_0 : decode cJ0_charAt_5068e 0 = .ok (.aload_n 0, 1) := by decide +kernel
theorem d_J0_charAt_5068e_1 : decode cJ0_charAt_5068e 1 = .ok (.invokevirtual 492, 3) := by decide +kernel
theorem d_J0_charAt_5068e_4 : decode cJ0_charAt_5068e 4 = .ok (.ifCond .eq 12, 3) := by decide +kernel
theorem d_J0_charAt_5068e_7 : decode cJ0_charAt_5068e 7 = .ok (.aload_n 0, 1) := by decide +kernel
theorem d_J0_charAt_5068e_8 : decode cJ0_charAt_5068e 8 = .ok (.getfield 9, 3) := by decide +kernel
theorem d_J0_charAt_5068e_11 : decode cJ0_charAt_5068e 11 = .ok (.iload_n 1, 1) := by decide +kernel
theorem d_J0_charAt_5068e_12 : decode cJ0_charAt_5068e 12 = .ok (.invokestatic 495, 3) := by decide +kernel
theorem d_J0_charAt_5068e_15 : decode cJ0_charAt_5068e 15 = .ok (.ireturn, 1) := by decide +kernel
theorem d_J0_charAt_5068e_16 : decode cJ0_charAt_5068e 16 = .ok (.aload_n 0, 1) := by decide +kernel
theorem d_J0_charAt_5068e_17 : decode cJ0_charAt_5068e 17 = .ok (.getfield 9, 3) := by decide +kernel
theorem d_J0_charAt_5068e_20 : decode cJ0_charAt_5068e 20 = .ok (.iload_n 1, 1) := by decide +kernel
theorem d_J0_charAt_5068e_21 : decode cJ0_charAt_5068e 21 = .ok (.invokestatic 498, 3) := by decide +kernel
theorem d_J0_charAt_5068e_24 : decode cJ0_charAt_5068e 24 = .ok (.ireturn, 1) := by decide +kernel
theorem d_J0_indexOf_0f7a4_0 : decode cJ0_indexOf_0f7a4 0 = .ok (.aload_n 0, 1) := by decide +kernel
theorem d_J0_indexOf_0f7a4_1 : decode cJ0_indexOf_0f7a4 1 = .ok (.iload_n 1, 1) := by decide +kernel
theorem d_J0_indexOf_0f7a4_2 : decode cJ0_indexOf_0f7a4 2 = .ok (.iconst 0, 1) := by decide +kernel
theorem d_J0_indexOf_0f7a4_3 : decode cJ0_indexOf_0f7a4 3 = .ok (.invokevirtual 633, 3) := by decide +kernel
theorem d_J0_indexOf_0f7a4_6 : decode cJ0_indexOf_0f7a4 6 = .ok (.ireturn, 1) := by decide +kernel
theorem d_J0_indexOf_7cf53_0 : decode cJ0_indexOf_7cf53 0 = .ok (.aload_n 0, 1) := by decide +kernel
theorem d_J0_indexOf_7cf53_1 : decode cJ0_indexOf_7cf53 1 = .ok (.invokevirtual 492, 3) := by decide +kernel
theorem d_J0_indexOf_7cf53_4 : decode cJ0_indexOf_7cf53 4 = .ok (.ifCond .eq 19, 3) := by decide +kernel
theorem d_J0_indexOf_7cf53_7 : decode cJ0_indexOf_7cf53 7 = .ok (.aload_n 0, 1) := by decide +kernel
theorem d_J0_indexOf_7cf53_8 : decode cJ0_indexOf_7cf53 8 = .ok (.getfield 9, 3) := by decide +kernel
theorem d_J0_indexOf_7cf53_11 : decode cJ0_indexOf_7cf53 11 = .ok (.iload_n 1, 1) := by decide +kernel
theorem d_J0_indexOf_7cf53_12 : decode cJ0_indexOf_7cf53 12 = .ok (.iload_n 2, 1) := by decide +kernel
theorem d_J0_indexOf_7cf53_13 : decode cJ0_indexOf_7cf53 13 = .ok (.aload_n 0, 1) := by decide +kernel
theorem d_J0_indexOf_7cf53_14 : decode cJ0_indexOf_7cf53 14 = .ok (.invokevirtual 505, 3) := by decide +kernel
theorem d_J0_indexOf_7cf53_17 : decode cJ0_indexOf_7cf53 17 = .ok (.invokestatic 637, 3) := by decide +kernel
theorem d_J0_indexOf_7cf53_20 : decode cJ0_indexOf_7cf53 20 = .ok (.goto 16, 3) := by decide +kernel
theorem d_J0_indexOf_7cf53_23 : decode cJ0_indexOf_7cf53 23 = .ok (.aload_n 0, 1) := by decide +kernel
theorem d_J0_indexOf_7cf53_24 : decode cJ0_indexOf_7cf53 24 = .ok (.getfield 9, 3) := by decide +kernel
theorem d_J0_indexOf_7cf53_27 : decode cJ0_indexOf_7cf53 27 = .ok (.iload_n 1, 1) := by decide +kernel
theorem d_J0_indexOf_7cf53_28 : decode cJ0_indexOf_7cf53 28 = .ok (.iload_n 2, 1) := by decide +kernel
theorem d_J0_indexOf_7cf53_29 : decode cJ0_indexOf_7cf53 29 = .ok (.aload_n 0, 1) := by decide +kernel
theorem d_J0_indexOf_7cf53_30 : decode cJ0_indexOf_7cf53 30 = .ok (.invokevirtual 505, 3) := by decide +kernel
theorem d_J0_indexOf_7cf53_33 : decode cJ0_indexOf_7cf53 33 = .ok (.invokestatic 640, 3) := by decide +kernel
theorem d_J0_indexOf_7cf53_36 : decode cJ0_indexOf_7cf53 36 = .ok (.ireturn, 1) := by decide +kernel
theorem d_J0_coder_7d493_0 : decode cJ0_coder_7d493 0 = .ok (.getstatic 38, 3) := by decide +kernel
theorem d_J0_coder_7d493_3 : decode cJ0_coder_7d493 3 = .ok (.ifCond .eq 10, 3) := by decide +kernel
theorem d_J0_coder_7d493_6 : decode cJ0_coder_7d493 6 = .ok (.aload_n 0, 1) := by decide +kernel
theorem d_J0_coder_7d493_7 : decode cJ0_coder_7d493 7 = .ok (.getfield 15, 3) := by decide +kernel
theorem d_J0_coder_7d493_10 : decode cJ0_coder_7d493 10 = .ok (.goto 4, 3) := by decide +kernel
theorem d_J0_coder_7d493_13 : decode cJ0_coder_7d493 13 = .ok (.iconst 1, 1) := by decide +kernel
theorem d_J0_coder_7d493_14 : decode cJ0_coder_7d493 14 = .ok (.ireturn, 1) := by decide +kernel
theorem d_J0_isLatin1_aae02_0 : decode cJ0_isLatin1_aae02 0 = .ok (.getstatic 38, 3) := by decide +kernel
theorem d_J0_isLatin1_aae02_3 : decode cJ0_isLatin1_aae02 3 = .ok (.ifCond .eq 14, 3) := by decide +kernel
theorem d_J0_isLatin1_aae02_6 : decode cJ0_isLatin1_aae02 6 = .ok (.aload_n 0, 1) := by decide +kernel
theorem d_J0_isLatin1_aae02_7 : decode cJ0_isLatin1_aae02 7 = .ok (.getfield 15, 3) := by decide +kernel
theorem d_J0_isLatin1_aae02_10 : decode cJ0_isLatin1_aae02 10 = .ok (.ifCond .ne 7, 3) := by decide +kernel
theorem d_J0_isLatin1_aae02_13 : decode cJ0_isLatin1_aae02 13 = .ok (.iconst 1, 1) := by decide +kernel
theorem d_J0_isLatin1_aae02_14 : decode cJ0_isLatin1_aae02 14 = .ok (.goto 4, 3) := by decide +kernel
theorem d_J0_isLatin1_aae02_17 : decode cJ0_isLatin1_aae02 17 = .ok (.iconst 0, 1) := by decide +kernel
theorem d_J0_isLatin1_aae02_18 : decode cJ0_isLatin1_aae02 18 = .ok (.ireturn, 1) := by decide +kernel
theorem d_J0_checkIndex_df160_0 : decode cJ0_checkIndex_df160 0 = .ok (.iload_n 0, 1) := by decide +kernel
theorem d_J0_checkIndex_df160_1 : decode cJ0_checkIndex_df160 1 = .ok (.iload_n 1, 1) := by decide +kernel
theorem d_J0_checkIndex_df160_2 : decode cJ0_checkIndex_df160 2 = .ok (.getstatic 1053, 3) := by decide +kernel
theorem d_J0_checkIndex_df160_5 : decode cJ0_checkIndex_df160 5 = .ok (.invokestatic 1059, 3) := by decide +kernel
theorem d_J0_checkIndex_df160_8 : decode cJ0_checkIndex_df160 8 = .ok (.pop, 1) := by decide +kernel
theorem d_J0_checkIndex_df160_9 : decode cJ0_checkIndex_df160 9 = .ok (.return_, 1) := by decide +kernel
theorem d_J1_charAt_3b067_0 : decode cJ1_charAt_3b067 0 = .ok (.iload_n 1, 1) := by decide +kernel
theorem d_J1_charAt_3b067_1 : decode cJ1_charAt_3b067 1 = .ok (.aload_n 0, 1) := by decide +kernel
theorem d_J1_charAt_3b067_2 : decode cJ1_charAt_3b067 2 = .ok (.arraylength, 1) := by decide +kernel
theorem d_J1_charAt_3b067_3 : decode cJ1_charAt_3b067 3 = .ok (.invokestatic 9, 3) := by decide +kernel
theorem d_J1_charAt_3b067_6 : decode cJ1_charAt_3b067 6 = .ok (.aload_n 0, 1) := by decide +kernel
theorem d_J1_charAt_3b067_7 : decode cJ1_charAt_3b067 7 = .ok (.iload_n 1, 1) := by decide +kernel
theorem d_J1_charAt_3b067_8 : decode cJ1_charAt_3b067 8 = .ok (.baload, 1) := by decide +kernel
theorem d_J1_charAt_3b067_9 : decode cJ1_charAt_3b067 9 = .ok (.sipush 255, 3) := by decide +kernel
theorem d_J1_charAt_3b067_12 : decode cJ1_charAt_3b067 12 = .ok (.iand, 1) := by decide +kernel
theorem d_J1_charAt_3b067_13 : decode cJ1_charAt_3b067 13 = .ok (.i2c, 1) := by decide +kernel
theorem d_J1_charAt_3b067_14 : decode cJ1_charAt_3b067 14 = .ok (.ireturn, 1) := by decide +kernel
theorem d_J1_canEncode_9a6ad_0 : decode cJ1_canEncode_9a6ad 0 = .ok (.iload_n 0, 1) := by decide +kernel
theorem d_J1_canEncode_9a6ad_1 : decode cJ1_canEncode_9a6ad 1 = .ok (.ifCond .lt 14, 3) := by decide +kernel
theorem d_J1_canEncode_9a6ad_4 : decode cJ1_canEncode_9a6ad 4 = .ok (.iload_n 0, 1) := by decide +kernel
theorem d_J1_canEncode_9a6ad_5 : decode cJ1_canEncode_9a6ad 5 = .ok (.sipush 255, 3) := by decide +kernel
theorem d_J1_canEncode_9a6ad_8 : decode cJ1_canEncode_9a6ad 8 = .ok (.if_icmp .gt 7, 3) := by decide +kernel
theorem d_J1_canEncode_9a6ad_11 : decode cJ1_canEncode_9a6ad 11 = .ok (.iconst 1, 1) := by decide +kernel
theorem d_J1_canEncode_9a6ad_12 : decode cJ1_canEncode_9a6ad 12 = .ok (.goto 4, 3) := by decide +kernel
theorem d_J1_canEncode_9a6ad_15 : decode cJ1_canEncode_9a6ad 15 = .ok (.iconst 0, 1) := by decide +kernel
theorem d_J1_canEncode_9a6ad_16 : decode cJ1_canEncode_9a6ad 16 = .ok (.ireturn, 1) := by decide +kernel
theorem d_J1_indexOf_4cfef_0 : decode cJ1_indexOf_4cfef 0 = .ok (.iload_n 1, 1) := by decide +kernel
theorem d_J1_indexOf_4cfef_1 : decode cJ1_indexOf_4cfef 1 = .ok (.invokestatic 88, 3) := by decide +kernel
theorem d_J1_indexOf_4cfef_4 : decode cJ1_indexOf_4cfef 4 = .ok (.ifCond .ne 5, 3) := by decide +kernel
theorem d_J1_indexOf_4cfef_7 : decode cJ1_indexOf_4cfef 7 = .ok (.iconst (-1), 1) := by decide +kernel
theorem d_J1_indexOf_4cfef_8 : decode cJ1_indexOf_4cfef 8 = .ok (.ireturn, 1) := by decide +kernel
theorem d_J1_indexOf_4cfef_9 : decode cJ1_indexOf_4cfef 9 = .ok (.iload_n 2, 1) := by decide +kernel
theorem d_J1_indexOf_4cfef_10 : decode cJ1_indexOf_4cfef 10 = .ok (.iconst 0, 1) := by decide +kernel
theorem d_J1_indexOf_4cfef_11 : decode cJ1_indexOf_4cfef 11 = .ok (.invokestatic 92, 3) := by decide +kernel
theorem d_J1_indexOf_4cfef_14 : decode cJ1_indexOf_4cfef 14 = .ok (.istore_n 2, 1) := by decide +kernel
theorem d_J1_indexOf_4cfef_15 : decode cJ1_indexOf_4cfef 15 = .ok (.iload_n 3, 1) := by decide +kernel
theorem d_J1_indexOf_4cfef_16 : decode cJ1_indexOf_4cfef 16 = .ok (.aload_n 0, 1) := by decide +kernel
theorem d_J1_indexOf_4cfef_17 : decode cJ1_indexOf_4cfef 17 = .ok (.arraylength, 1) := by decide +kernel
theorem d_J1_indexOf_4cfef_18 : decode cJ1_indexOf_4cfef 18 = .ok (.invokestatic 38, 3) := by decide +kernel
theorem d_J1_indexOf_4cfef_21 : decode cJ1_indexOf_4cfef 21 = .ok (.istore_n 3, 1) := by decide +kernel
theorem d_J1_indexOf_4cfef_22 : decode cJ1_indexOf_4cfef 22 = .ok (.iload_n 2, 1) := by decide +kernel
theorem d_J1_indexOf_4cfef_23 : decode cJ1_indexOf_4cfef 23 = .ok (.iload_n 3, 1) := by decide +kernel
theorem d_J1_indexOf_4cfef_24 : decode cJ1_indexOf_4cfef 24 = .ok (.if_icmp .lt 5, 3) := by decide +kernel
theorem d_J1_indexOf_4cfef_27 : decode cJ1_indexOf_4cfef 27 = .ok (.iconst (-1), 1) := by decide +kernel
theorem d_J1_indexOf_4cfef_28 : decode cJ1_indexOf_4cfef 28 = .ok (.ireturn, 1) := by decide +kernel
theorem d_J1_indexOf_4cfef_29 : decode cJ1_indexOf_4cfef 29 = .ok (.aload_n 0, 1) := by decide +kernel
theorem d_J1_indexOf_4cfef_30 : decode cJ1_indexOf_4cfef 30 = .ok (.iload_n 1, 1) := by decide +kernel
theorem d_J1_indexOf_4cfef_31 : decode cJ1_indexOf_4cfef 31 = .ok (.iload_n 2, 1) := by decide +kernel
theorem d_J1_indexOf_4cfef_32 : decode cJ1_indexOf_4cfef 32 = .ok (.iload_n 3, 1) := by decide +kernel
theorem d_J1_indexOf_4cfef_33 : decode cJ1_indexOf_4cfef 33 = .ok (.invokestatic 95, 3) := by decide +kernel
theorem d_J1_indexOf_4cfef_36 : decode cJ1_indexOf_4cfef 36 = .ok (.ireturn, 1) := by decide +kernel
theorem d_J1_indexOfChar_4cfef_0 : decode cJ1_indexOfChar_4cfef 0 = .ok (.iload_n 1, 1) := by decide +kernel
theorem d_J1_indexOfChar_4cfef_1 : decode cJ1_indexOfChar_4cfef 1 = .ok (.i2b, 1) := by decide +kernel
theorem d_J1_indexOfChar_4cfef_2 : decode cJ1_indexOfChar_4cfef 2 = .ok (.istore 4, 2) := by decide +kernel
theorem d_J1_indexOfChar_4cfef_4 : decode cJ1_indexOfChar_4cfef 4 = .ok (.iload_n 2, 1) := by decide +kernel
theorem d_J1_indexOfChar_4cfef_5 : decode cJ1_indexOfChar_4cfef 5 = .ok (.istore 5, 2) := by decide +kernel
theorem d_J1_indexOfChar_4cfef_7 : decode cJ1_indexOfChar_4cfef 7 = .ok (.iload 5, 2) := by decide +kernel
theorem d_J1_indexOfChar_4cfef_9 : decode cJ1_indexOfChar_4cfef 9 = .ok (.iload_n 3, 1) := by decide +kernel
theorem d_J1_indexOfChar_4cfef_10 : decode cJ1_indexOfChar_4cfef 10 = .ok (.if_icmp .ge 21, 3) := by decide +kernel
theorem d_J1_indexOfChar_4cfef_13 : decode cJ1_indexOfChar_4cfef 13 = .ok (.aload_n 0, 1) := by decide +kernel
theorem d_J1_indexOfChar_4cfef_14 : decode cJ1_indexOfChar_4cfef 14 = .ok (.iload 5, 2) := by decide +kernel
theorem d_J1_indexOfChar_4cfef_16 : decode cJ1_indexOfChar_4cfef 16 = .ok (.baload, 1) := by decide +kernel
theorem d_J1_indexOfChar_4cfef_17 : decode cJ1_indexOfChar_4cfef 17 = .ok (.iload 4, 2) := by decide +kernel
theorem d_J1_indexOfChar_4cfef_19 : decode cJ1_indexOfChar_4cfef 19 = .ok (.if_icmp .ne 6, 3) := by decide +kernel
theorem d_J1_indexOfChar_4cfef_22 : decode cJ1_indexOfChar_4cfef 22 = .ok (.iload 5, 2) := by decide +kernel
theorem d_J1_indexOfChar_4cfef_24 : decode cJ1_indexOfChar_4cfef 24 = .ok (.ireturn, 1) := by decide +kernel
theorem d_J1_indexOfChar_4cfef_25 : decode cJ1_indexOfChar_4cfef 25 = .ok (.iinc 5 1, 3) := by decide +kernel
theorem d_J1_indexOfChar_4cfef_28 : decode cJ1_indexOfChar_4cfef 28 = .ok (.goto (-21), 3) := by decide +kernel
theorem d_J1_indexOfChar_4cfef_31 : decode cJ1_indexOfChar_4cfef 31 = .ok (.iconst (-1), 1) := by decide +kernel
theorem d_J1_indexOfChar_4cfef_32 : decode cJ1_indexOfChar_4cfef 32 = .ok (.ireturn, 1) := by decide +kernel
theorem d_J7_fill_d0a16_0 : decode cJ7_fill_d0a16 0 = .ok (.iconst 0, 1) := by decide +kernel
theorem d_J7_fill_d0a16_1 : decode cJ7_fill_d0a16 1 = .ok (.istore_n 3, 1) := by decide +kernel
theorem d_J7_fill_d0a16_2 : decode cJ7_fill_d0a16 2 = .ok (.aload_n 0, 1) := by decide +kernel
theorem d_J7_fill_d0a16_3 : decode cJ7_fill_d0a16 3 = .ok (.arraylength, 1) := by decide +kernel
theorem d_J7_fill_d0a16_4 : decode cJ7_fill_d0a16 4 = .ok (.istore 4, 2) := by decide +kernel
theorem d_J7_fill_d0a16_6 : decode cJ7_fill_d0a16 6 = .ok (.iload_n 3, 1) := by decide +kernel
theorem d_J7_fill_d0a16_7 : decode cJ7_fill_d0a16 7 = .ok (.iload 4, 2) := by decide +kernel
theorem d_J7_fill_d0a16_9 : decode cJ7_fill_d0a16 9 = .ok (.if_icmp .ge 13, 3) := by decide +kernel
theorem d_J7_fill_d0a16_12 : decode cJ7_fill_d0a16 12 = .ok (.aload_n 0, 1) := by decide +kernel
theorem d_J7_fill_d0a16_13 : decode cJ7_fill_d0a16 13 = .ok (.iload_n 3, 1) := by decide +kernel
theorem d_J7_fill_d0a16_14 : decode cJ7_fill_d0a16 14 = .ok (.lload_n 1, 1) := by decide +kernel
theorem d_J7_fill_d0a16_15 : decode cJ7_fill_d0a16 15 = .ok (.lastore, 1) := by decide +kernel
theorem d_J7_fill_d0a16_16 : decode cJ7_fill_d0a16 16 = .ok (.iinc 3 1, 3) := by decide +kernel
theorem d_J7_fill_d0a16_19 : decode cJ7_fill_d0a16 19 = .ok (.goto (-13), 3) := by decide +kernel
theorem d_J7_fill_d0a16_22 : decode cJ7_fill_d0a16 22 = .ok (.return_, 1) := by decide +kernel
theorem d_J7_fill_53178_0 : decode cJ7_fill_53178 0 = .ok (.iconst 0, 1) := by decide +kernel
theorem d_J7_fill_53178_1 : decode cJ7_fill_53178 1 = .ok (.istore_n 2, 1) := by decide +kernel
theorem d_J7_fill_53178_2 : decode cJ7_fill_53178 2 = .ok (.aload_n 0, 1) := by decide +kernel
theorem d_J7_fill_53178_3 : decode cJ7_fill_53178 3 = .ok (.arraylength, 1) := by decide +kernel
theorem d_J7_fill_53178_4 : decode cJ7_fill_53178 4 = .ok (.istore_n 3, 1) := by decide +kernel
theorem d_J7_fill_53178_5 : decode cJ7_fill_53178 5 = .ok (.iload_n 2, 1) := by decide +kernel
theorem d_J7_fill_53178_6 : decode cJ7_fill_53178 6 = .ok (.iload_n 3, 1) := by decide +kernel
theorem d_J7_fill_53178_7 : decode cJ7_fill_53178 7 = .ok (.if_icmp .ge 13, 3) := by decide +kernel
theorem d_J7_fill_53178_10 : decode cJ7_fill_53178 10 = .ok (.aload_n 0, 1) := by decide +kernel
theorem d_J7_fill_53178_11 : decode cJ7_fill_53178 11 = .ok (.iload_n 2, 1) := by decide +kernel
theorem d_J7_fill_53178_12 : decode cJ7_fill_53178 12 = .ok (.iload_n 1, 1) := by decide +kernel
theorem d_J7_fill_53178_13 : decode cJ7_fill_53178 13 = .ok (.iastore, 1) := by decide +kernel
theorem d_J7_fill_53178_14 : decode cJ7_fill_53178 14 = .ok (.iinc 2 1, 3) := by decide +kernel
theorem d_J7_fill_53178_17 : decode cJ7_fill_53178 17 = .ok (.goto (-12), 3) := by decide +kernel
theorem d_J7_fill_53178_20 : decode cJ7_fill_53178 20 = .ok (.return_, 1) := by decide +kernel
theorem d_J3_checkIndex_8e157_0 : decode cJ3_checkIndex_8e157 0 = .ok (.iload_n 0, 1) := by decide +kernel
theorem d_J3_checkIndex_8e157_1 : decode cJ3_checkIndex_8e157 1 = .ok (.ifCond .lt 8, 3) := by decide +kernel
theorem d_J3_checkIndex_8e157_4 : decode cJ3_checkIndex_8e157 4 = .ok (.iload_n 0, 1) := by decide +kernel
theorem d_J3_checkIndex_8e157_5 : decode cJ3_checkIndex_8e157 5 = .ok (.iload_n 1, 1) := by decide +kernel
theorem d_J3_checkIndex_8e157_6 : decode cJ3_checkIndex_8e157 6 = .ok (.if_icmp .lt 10, 3) := by decide +kernel
theorem d_J3_checkIndex_8e157_9 : decode cJ3_checkIndex_8e157 9 = .ok (.aload_n 2, 1) := by decide +kernel
theorem d_J3_checkIndex_8e157_10 : decode cJ3_checkIndex_8e157 10 = .ok (.iload_n 0, 1) := by decide +kernel
theorem d_J3_checkIndex_8e157_11 : decode cJ3_checkIndex_8e157 11 = .ok (.iload_n 1, 1) := by decide +kernel
theorem d_J3_checkIndex_8e157_12 : decode cJ3_checkIndex_8e157 12 = .ok (.invokestatic 95, 3) := by decide +kernel
theorem d_J3_checkIndex_8e157_15 : decode cJ3_checkIndex_8e157 15 = .ok (.athrow, 1) := by decide +kernel
theorem d_J3_checkIndex_8e157_16 : decode cJ3_checkIndex_8e157 16 = .ok (.iload_n 0, 1) := by decide +kernel
theorem d_J3_checkIndex_8e157_17 : decode cJ3_checkIndex_8e157 17 = .ok (.ireturn, 1) := by decide +kernel
theorem d_L_append_0 : decode cL_append 0 = .ok (.aload_n 2, 1) := by decide +kernel
theorem d_L_append_1 : decode cL_append 1 = .ok (.iconst 0, 1) := by decide +kernel
theorem d_L_append_2 : decode cL_append 2 = .ok (.aload_n 0, 1) := by decide +kernel
theorem d_L_append_3 : decode cL_append 3 = .ok (.iload_n 1, 1) := by decide +kernel
theorem d_L_append_4 : decode cL_append 4 = .ok (.invokevirtual 7, 3) := by decide +kernel
theorem d_L_append_7 : decode cL_append 7 = .ok (.i2l, 1) := by decide +kernel
theorem d_L_append_8 : decode cL_append 8 = .ok (.lastore, 1) := by decide +kernel
theorem d_L_append_9 : decode cL_append 9 = .ok (.goto 6, 3) := by decide +kernel
theorem d_L_append_12 : decode cL_append 12 = .ok (.astore_n 3, 1) := by decide +kernel
theorem d_L_append_13 : decode cL_append 13 = .ok (.iconst 1, 1) := by decide +kernel
theorem d_L_append_14 : decode cL_append 14 = .ok (.ireturn, 1) := by decide +kernel
theorem d_L_append_15 : decode cL_append 15 = .ok (.iconst 0, 1) := by decide +kernel
theorem d_L_append_16 : decode cL_append 16 = .ok (.ireturn, 1) := by decide +kernel
theorem d_L_layout_0 : decode cL_layout 0 = .ok (.aload_n 1, 1) := by decide +kernel
theorem d_L_layout_1 : decode cL_layout 1 = .ok (.iconst 0, 1) := by decide +kernel
theorem d_L_layout_2 : decode cL_layout 2 = .ok (.aload_n 0, 1) := by decide +kernel
theorem d_L_layout_3 : decode cL_layout 3 = .ok (.invokevirtual 15, 3) := by decide +kernel
theorem d_L_layout_6 : decode cL_layout 6 = .ok (.i2l, 1) := by decide +kernel
theorem d_L_layout_7 : decode cL_layout 7 = .ok (.lastore, 1) := by decide +kernel
theorem d_L_layout_8 : decode cL_layout 8 = .ok (.goto 6, 3) := by decide +kernel
theorem d_L_layout_11 : decode cL_layout 11 = .ok (.astore_n 2, 1) := by decide +kernel
theorem d_L_layout_12 : decode cL_layout 12 = .ok (.iconst 1, 1) := by decide +kernel
theorem d_L_layout_13 : decode cL_layout 13 = .ok (.ireturn, 1) := by decide +kernel
theorem d_L_layout_14 : decode cL_layout 14 = .ok (.iconst 0, 1) := by decide +kernel
theorem d_L_layout_15 : decode cL_layout 15 = .ok (.ireturn, 1) := by decide +kernel
theorem d_L_add_0 : decode cL_add 0 = .ok (.aload_n 3, 1) := by decide +kernel
theorem d_L_add_1 : decode cL_add 1 = .ok (.iconst 0, 1) := by decide +kernel
theorem d_L_add_2 : decode cL_add 2 = .ok (.aload_n 0, 1) := by decide +kernel
theorem d_L_add_3 : decode cL_add 3 = .ok (.iload_n 1, 1) := by decide +kernel
theorem d_L_add_4 : decode cL_add 4 = .ok (.iload_n 2, 1) := by decide +kernel
theorem d_L_add_5 : decode cL_add 5 = .ok (.invokevirtual 21, 3) := by decide +kernel
theorem d_L_add_8 : decode cL_add 8 = .ok (.i2l, 1) := by decide +kernel
theorem d_L_add_9 : decode cL_add 9 = .ok (.lastore, 1) := by decide +kernel
theorem d_L_add_10 : decode cL_add 10 = .ok (.goto 7, 3) := by decide +kernel
theorem d_L_add_13 : decode cL_add 13 = .ok (.astore 4, 2) := by decide +kernel
theorem d_L_add_15 : decode cL_add 15 = .ok (.iconst 1, 1) := by decide +kernel
theorem d_L_add_16 : decode cL_add 16 = .ok (.ireturn, 1) := by decide +kernel
theorem d_L_add_17 : decode cL_add 17 = .ok (.iconst 0, 1) := by decide +kernel
theorem d_L_add_18 : decode cL_add 18 = .ok (.ireturn, 1) := by decide +kernel
theorem d_L_takeOff_0 : decode cL_takeOff 0 = .ok (.aload_n 2, 1) := by decide +kernel
theorem d_L_takeOff_1 : decode cL_takeOff 1 = .ok (.iconst 0, 1) := by decide +kernel
theorem d_L_takeOff_2 : decode cL_takeOff 2 = .ok (.aload_n 0, 1) := by decide +kernel
theorem d_L_takeOff_3 : decode cL_takeOff 3 = .ok (.iload_n 1, 1) := by decide +kernel
theorem d_L_takeOff_4 : decode cL_takeOff 4 = .ok (.invokevirtual 27, 3) := by decide +kernel
theorem d_L_takeOff_7 : decode cL_takeOff 7 = .ok (.i2l, 1) := by decide +kernel
theorem d_L_takeOff_8 : decode cL_takeOff 8 = .ok (.lastore, 1) := by decide +kernel
theorem d_L_takeOff_9 : decode cL_takeOff 9 = .ok (.goto 6, 3) := by decide +kernel
theorem d_L_takeOff_12 : decode cL_takeOff 12 = .ok (.astore_n 3, 1) := by decide +kernel
theorem d_L_takeOff_13 : decode cL_takeOff 13 = .ok (.iconst 1, 1) := by decide +kernel
theorem d_L_takeOff_14 : decode cL_takeOff 14 = .ok (.ireturn, 1) := by decide +kernel
theorem d_L_takeOff_15 : decode cL_takeOff 15 = .ok (.iconst 0, 1) := by decide +kernel
theorem d_L_takeOff_16 : decode cL_takeOff 16 = .ok (.ireturn, 1) := by decide +kernel
theorem d_L_order_0 : decode cL_order 0 = .ok (.aload 5, 2) := by decide +kernel
theorem d_L_order_2 : decode cL_order 2 = .ok (.iconst 0, 1) := by decide +kernel
theorem d_L_order_3 : decode cL_order 3 = .ok (.aload_n 0, 1) := by decide +kernel
theorem d_L_order_4 : decode cL_order 4 = .ok (.iload_n 1, 1) := by decide +kernel
theorem d_L_order_5 : decode cL_order 5 = .ok (.iload_n 2, 1) := by decide +kernel
theorem d_L_order_6 : decode cL_order 6 = .ok (.iload_n 3, 1) := by decide +kernel
theorem d_L_order_7 : decode cL_order 7 = .ok (.iload 4, 2) := by decide +kernel
theorem d_L_order_9 : decode cL_order 9 = .ok (.invokevirtual 31, 3) := by decide +kernel
theorem d_L_order_12 : decode cL_order 12 = .ok (.i2l, 1) := by decide +kernel
theorem d_L_order_13 : decode cL_order 13 = .ok (.lastore, 1) := by decide +kernel
theorem d_L_order_14 : decode cL_order 14 = .ok (.goto 7, 3) := by decide +kernel
theorem d_L_order_17 : decode cL_order 17 = .ok (.astore 6, 2) := by decide +kernel
theorem d_L_order_19 : decode cL_order 19 = .ok (.iconst 1, 1) := by decide +kernel
theorem d_L_order_20 : decode cL_order 20 = .ok (.ireturn, 1) := by decide +kernel
theorem d_L_order_21 : decode cL_order 21 = .ok (.iconst 0, 1) := by decide +kernel
theorem d_L_order_22 : decode cL_order 22 = .ok (.ireturn, 1) := by decide +kernel
theorem d_L_assign_0 : decode cL_assign 0 = .ok (.aload_n 3, 1) := by decide +kernel
theorem d_L_assign_1 : decode cL_assign 1 = .ok (.iconst 0, 1) := by decide +kernel
theorem d_L_assign_2 : decode cL_assign 2 = .ok (.aload_n 0, 1) := by decide +kernel
theorem d_L_assign_3 : decode cL_assign 3 = .ok (.iload_n 1, 1) := by decide +kernel
theorem d_L_assign_4 : decode cL_assign 4 = .ok (.iload_n 2, 1) := by decide +kernel
theorem d_L_assign_5 : decode cL_assign 5 = .ok (.invokevirtual 35, 3) := by decide +kernel
theorem d_L_assign_8 : decode cL_assign 8 = .ok (.i2l, 1) := by decide +kernel
theorem d_L_assign_9 : decode cL_assign 9 = .ok (.lastore, 1) := by decide +kernel
theorem d_L_assign_10 : decode cL_assign 10 = .ok (.goto 7, 3) := by decide +kernel
theorem d_L_assign_13 : decode cL_assign 13 = .ok (.astore 4, 2) := by decide +kernel
theorem d_L_assign_15 : decode cL_assign 15 = .ok (.iconst 1, 1) := by decide +kernel
theorem d_L_assign_16 : decode cL_assign 16 = .ok (.ireturn, 1) := by decide +kernel
theorem d_L_assign_17 : decode cL_assign 17 = .ok (.iconst 0, 1) := by decide +kernel
theorem d_L_assign_18 : decode cL_assign 18 = .ok (.ireturn, 1) := by decide +kernel
theorem d_L_release_0 : decode cL_release 0 = .ok (.aload_n 2, 1) := by decide +kernel
theorem d_L_release_1 : decode cL_release 1 = .ok (.iconst 0, 1) := by decide +kernel
theorem d_L_release_2 : decode cL_release 2 = .ok (.aload_n 0, 1) := by decide +kernel
theorem d_L_release_3 : decode cL_release 3 = .ok (.iload_n 1, 1) := by decide +kernel
theorem d_L_release_4 : decode cL_release 4 = .ok (.invokevirtual 38, 3) := by decide +kernel
theorem d_L_release_7 : decode cL_release 7 = .ok (.i2l, 1) := by decide +kernel
theorem d_L_release_8 : decode cL_release 8 = .ok (.lastore, 1) := by decide +kernel
theorem d_L_release_9 : decode cL_release 9 = .ok (.goto 6, 3) := by decide +kernel
theorem d_L_release_12 : decode cL_release 12 = .ok (.astore_n 3, 1) := by decide +kernel
theorem d_L_release_13 : decode cL_release 13 = .ok (.iconst 1, 1) := by decide +kernel
theorem d_L_release_14 : decode cL_release 14 = .ok (.ireturn, 1) := by decide +kernel
theorem d_L_release_15 : decode cL_release 15 = .ok (.iconst 0, 1) := by decide +kernel
theorem d_L_release_16 : decode cL_release 16 = .ok (.ireturn, 1) := by decide +kernel
theorem d_L_close_0 : decode cL_close 0 = .ok (.aload_n 2, 1) := by decide +kernel
theorem d_L_close_1 : decode cL_close 1 = .ok (.iconst 0, 1) := by decide +kernel
theorem d_L_close_2 : decode cL_close 2 = .ok (.aload_n 0, 1) := by decide +kernel
theorem d_L_close_3 : decode cL_close 3 = .ok (.iload_n 1, 1) := by decide +kernel
theorem d_L_close_4 : decode cL_close 4 = .ok (.invokevirtual 41, 3) := by decide +kernel
theorem d_L_close_7 : decode cL_close 7 = .ok (.i2l, 1) := by decide +kernel
theorem d_L_close_8 : decode cL_close 8 = .ok (.lastore, 1) := by decide +kernel
theorem d_L_close_9 : decode cL_close 9 = .ok (.goto 6, 3) := by decide +kernel
theorem d_L_close_12 : decode cL_close 12 = .ok (.astore_n 3, 1) := by decide +kernel
theorem d_L_close_13 : decode cL_close 13 = .ok (.iconst 1, 1) := by decide +kernel
theorem d_L_close_14 : decode cL_close 14 = .ok (.ireturn, 1) := by decide +kernel
theorem d_L_close_15 : decode cL_close 15 = .ok (.iconst 0, 1) := by decide +kernel
theorem d_L_close_16 : decode cL_close 16 = .ok (.ireturn, 1) := by decide +kernel
theorem d_L_open_0 : decode cL_open 0 = .ok (.aload_n 2, 1) := by decide +kernel
theorem d_L_open_1 : decode cL_open 1 = .ok (.iconst 0, 1) := by decide +kernel
theorem d_L_open_2 : decode cL_open 2 = .ok (.aload_n 0, 1) := by decide +kernel
theorem d_L_open_3 : decode cL_open 3 = .ok (.iload_n 1, 1) := by decide +kernel
theorem d_L_open_4 : decode cL_open 4 = .ok (.invokevirtual 44, 3) := by decide +kernel
theorem d_L_open_7 : decode cL_open 7 = .ok (.i2l, 1) := by decide +kernel
theorem d_L_open_8 : decode cL_open 8 = .ok (.lastore, 1) := by decide +kernel
theorem d_L_open_9 : decode cL_open 9 = .ok (.goto 6, 3) := by decide +kernel
theorem d_L_open_12 : decode cL_open 12 = .ok (.astore_n 3, 1) := by decide +kernel
theorem d_L_open_13 : decode cL_open 13 = .ok (.iconst 1, 1) := by decide +kernel
theorem d_L_open_14 : decode cL_open 14 = .ok (.ireturn, 1) := by decide +kernel
theorem d_L_open_15 : decode cL_open 15 = .ok (.iconst 0, 1) := by decide +kernel
theorem d_L_open_16 : decode cL_open 16 = .ok (.ireturn, 1) := by decide +kernel
theorem d_L_set_0 : decode cL_set 0 = .ok (.aload_n 3, 1) := by decide +kernel
theorem d_L_set_1 : decode cL_set 1 = .ok (.iconst 0, 1) := by decide +kernel
theorem d_L_set_2 : decode cL_set 2 = .ok (.aload_n 0, 1) := by decide +kernel
theorem d_L_set_3 : decode cL_set 3 = .ok (.iload_n 1, 1) := by decide +kernel
theorem d_L_set_4 : decode cL_set 4 = .ok (.iload_n 2, 1) := by decide +kernel
theorem d_L_set_5 : decode cL_set 5 = .ok (.invokevirtual 47, 3) := by decide +kernel
theorem d_L_set_8 : decode cL_set 8 = .ok (.i2l, 1) := by decide +kernel
theorem d_L_set_9 : decode cL_set 9 = .ok (.lastore, 1) := by decide +kernel
theorem d_L_set_10 : decode cL_set 10 = .ok (.goto 7, 3) := by decide +kernel
theorem d_L_set_13 : decode cL_set 13 = .ok (.astore 4, 2) := by decide +kernel
theorem d_L_set_15 : decode cL_set 15 = .ok (.iconst 1, 1) := by decide +kernel
theorem d_L_set_16 : decode cL_set 16 = .ok (.ireturn, 1) := by decide +kernel
theorem d_L_set_17 : decode cL_set 17 = .ok (.iconst 0, 1) := by decide +kernel
theorem d_L_set_18 : decode cL_set 18 = .ok (.ireturn, 1) := by decide +kernel
theorem d_L_plan_0 : decode cL_plan 0 = .ok (.aload_n 3, 1) := by decide +kernel
theorem d_L_plan_1 : decode cL_plan 1 = .ok (.iconst 0, 1) := by decide +kernel
theorem d_L_plan_2 : decode cL_plan 2 = .ok (.aload_n 0, 1) := by decide +kernel
theorem d_L_plan_3 : decode cL_plan 3 = .ok (.iload_n 1, 1) := by decide +kernel
theorem d_L_plan_4 : decode cL_plan 4 = .ok (.iload_n 2, 1) := by decide +kernel
theorem d_L_plan_5 : decode cL_plan 5 = .ok (.invokevirtual 50, 3) := by decide +kernel
theorem d_L_plan_8 : decode cL_plan 8 = .ok (.i2l, 1) := by decide +kernel
theorem d_L_plan_9 : decode cL_plan 9 = .ok (.lastore, 1) := by decide +kernel
theorem d_L_plan_10 : decode cL_plan 10 = .ok (.goto 7, 3) := by decide +kernel
theorem d_L_plan_13 : decode cL_plan 13 = .ok (.astore 4, 2) := by decide +kernel
theorem d_L_plan_15 : decode cL_plan 15 = .ok (.iconst 1, 1) := by decide +kernel
theorem d_L_plan_16 : decode cL_plan 16 = .ok (.ireturn, 1) := by decide +kernel
theorem d_L_plan_17 : decode cL_plan 17 = .ok (.iconst 0, 1) := by decide +kernel
theorem d_L_plan_18 : decode cL_plan 18 = .ok (.ireturn, 1) := by decide +kernel
theorem d_L_cancel_0 : decode cL_cancel 0 = .ok (.aload_n 2, 1) := by decide +kernel
theorem d_L_cancel_1 : decode cL_cancel 1 = .ok (.iconst 0, 1) := by decide +kernel
theorem d_L_cancel_2 : decode cL_cancel 2 = .ok (.aload_n 0, 1) := by decide +kernel
theorem d_L_cancel_3 : decode cL_cancel 3 = .ok (.iload_n 1, 1) := by decide +kernel
theorem d_L_cancel_4 : decode cL_cancel 4 = .ok (.invokevirtual 53, 3) := by decide +kernel
theorem d_L_cancel_7 : decode cL_cancel 7 = .ok (.i2l, 1) := by decide +kernel
theorem d_L_cancel_8 : decode cL_cancel 8 = .ok (.lastore, 1) := by decide +kernel
theorem d_L_cancel_9 : decode cL_cancel 9 = .ok (.goto 6, 3) := by decide +kernel
theorem d_L_cancel_12 : decode cL_cancel 12 = .ok (.astore_n 3, 1) := by decide +kernel
theorem d_L_cancel_13 : decode cL_cancel 13 = .ok (.iconst 1, 1) := by decide +kernel
theorem d_L_cancel_14 : decode cL_cancel 14 = .ok (.ireturn, 1) := by decide +kernel
theorem d_L_cancel_15 : decode cL_cancel 15 = .ok (.iconst 0, 1) := by decide +kernel
theorem d_L_cancel_16 : decode cL_cancel 16 = .ok (.ireturn, 1) := by decide +kernel
theorem d_L_pass_0 : decode cL_pass 0 = .ok (.aload_n 2, 1) := by decide +kernel
theorem d_L_pass_1 : decode cL_pass 1 = .ok (.iconst 0, 1) := by decide +kernel
theorem d_L_pass_2 : decode cL_pass 2 = .ok (.aload_n 0, 1) := by decide +kernel
theorem d_L_pass_3 : decode cL_pass 3 = .ok (.iload_n 1, 1) := by decide +kernel
theorem d_L_pass_4 : decode cL_pass 4 = .ok (.invokevirtual 56, 3) := by decide +kernel
theorem d_L_pass_7 : decode cL_pass 7 = .ok (.i2l, 1) := by decide +kernel
theorem d_L_pass_8 : decode cL_pass 8 = .ok (.lastore, 1) := by decide +kernel
theorem d_L_pass_9 : decode cL_pass 9 = .ok (.goto 6, 3) := by decide +kernel
theorem d_L_pass_12 : decode cL_pass 12 = .ok (.astore_n 3, 1) := by decide +kernel
theorem d_L_pass_13 : decode cL_pass 13 = .ok (.iconst 1, 1) := by decide +kernel
theorem d_L_pass_14 : decode cL_pass 14 = .ok (.ireturn, 1) := by decide +kernel
theorem d_L_pass_15 : decode cL_pass 15 = .ok (.iconst 0, 1) := by decide +kernel
theorem d_L_pass_16 : decode cL_pass 16 = .ok (.ireturn, 1) := by decide +kernel
theorem d_L_cell_0 : decode cL_cell 0 = .ok (.aload_n 3, 1) := by decide +kernel
theorem d_L_cell_1 : decode cL_cell 1 = .ok (.iconst 0, 1) := by decide +kernel
theorem d_L_cell_2 : decode cL_cell 2 = .ok (.aload_n 0, 1) := by decide +kernel
theorem d_L_cell_3 : decode cL_cell 3 = .ok (.iload_n 1, 1) := by decide +kernel
theorem d_L_cell_4 : decode cL_cell 4 = .ok (.iload_n 2, 1) := by decide +kernel
theorem d_L_cell_5 : decode cL_cell 5 = .ok (.invokevirtual 59, 3) := by decide +kernel
theorem d_L_cell_8 : decode cL_cell 8 = .ok (.i2l, 1) := by decide +kernel
theorem d_L_cell_9 : decode cL_cell 9 = .ok (.lastore, 1) := by decide +kernel
theorem d_L_cell_10 : decode cL_cell 10 = .ok (.goto 11, 3) := by decide +kernel
theorem d_L_cell_13 : decode cL_cell 13 = .ok (.astore 4, 2) := by decide +kernel
theorem d_L_cell_15 : decode cL_cell 15 = .ok (.iconst 1, 1) := by decide +kernel
theorem d_L_cell_16 : decode cL_cell 16 = .ok (.ireturn, 1) := by decide +kernel
theorem d_L_cell_17 : decode cL_cell 17 = .ok (.astore 4, 2) := by decide +kernel
theorem d_L_cell_19 : decode cL_cell 19 = .ok (.iconst 2, 1) := by decide +kernel
theorem d_L_cell_20 : decode cL_cell 20 = .ok (.ireturn, 1) := by decide +kernel
theorem d_L_cell_21 : decode cL_cell 21 = .ok (.iconst 0, 1) := by decide +kernel
theorem d_L_cell_22 : decode cL_cell 22 = .ok (.ireturn, 1) := by decide +kernel
theorem d_L_letter_0 : decode cL_letter 0 = .ok (.aload_n 2, 1) := by decide +kernel
theorem d_L_letter_1 : decode cL_letter 1 = .ok (.iconst 0, 1) := by decide +kernel
theorem d_L_letter_2 : decode cL_letter 2 = .ok (.aload_n 0, 1) := by decide +kernel
theorem d_L_letter_3 : decode cL_letter 3 = .ok (.iload_n 1, 1) := by decide +kernel
theorem d_L_letter_4 : decode cL_letter 4 = .ok (.invokevirtual 64, 3) := by decide +kernel
theorem d_L_letter_7 : decode cL_letter 7 = .ok (.i2l, 1) := by decide +kernel
theorem d_L_letter_8 : decode cL_letter 8 = .ok (.lastore, 1) := by decide +kernel
theorem d_L_letter_9 : decode cL_letter 9 = .ok (.goto 6, 3) := by decide +kernel
theorem d_L_letter_12 : decode cL_letter 12 = .ok (.astore_n 3, 1) := by decide +kernel
theorem d_L_letter_13 : decode cL_letter 13 = .ok (.iconst 1, 1) := by decide +kernel
theorem d_L_letter_14 : decode cL_letter 14 = .ok (.ireturn, 1) := by decide +kernel
theorem d_L_letter_15 : decode cL_letter 15 = .ok (.iconst 0, 1) := by decide +kernel
theorem d_L_letter_16 : decode cL_letter 16 = .ok (.ireturn, 1) := by decide +kernel
theorem d_L_distance_0 : decode cL_distance 0 = .ok (.aload_n 3, 1) := by decide +kernel
theorem d_L_distance_1 : decode cL_distance 1 = .ok (.iconst 0, 1) := by decide +kernel
theorem d_L_distance_2 : decode cL_distance 2 = .ok (.aload_n 0, 1) := by decide +kernel
theorem d_L_distance_3 : decode cL_distance 3 = .ok (.iload_n 1, 1) := by decide +kernel
theorem d_L_distance_4 : decode cL_distance 4 = .ok (.iload_n 2, 1) := by decide +kernel
theorem d_L_distance_5 : decode cL_distance 5 = .ok (.invokevirtual 68, 3) := by decide +kernel
theorem d_L_distance_8 : decode cL_distance 8 = .ok (.i2l, 1) := by decide +kernel
theorem d_L_distance_9 : decode cL_distance 9 = .ok (.lastore, 1) := by decide +kernel
theorem d_L_distance_10 : decode cL_distance 10 = .ok (.goto 11, 3) := by decide +kernel
theorem d_L_distance_13 : decode cL_distance 13 = .ok (.astore 4, 2) := by decide +kernel
theorem d_L_distance_15 : decode cL_distance 15 = .ok (.iconst 1, 1) := by decide +kernel
theorem d_L_distance_16 : decode cL_distance 16 = .ok (.ireturn, 1) := by decide +kernel
theorem d_L_distance_17 : decode cL_distance 17 = .ok (.astore 4, 2) := by decide +kernel
theorem d_L_distance_19 : decode cL_distance 19 = .ok (.iconst 2, 1) := by decide +kernel
theorem d_L_distance_20 : decode cL_distance 20 = .ok (.ireturn, 1) := by decide +kernel
theorem d_L_distance_21 : decode cL_distance 21 = .ok (.iconst 0, 1) := by decide +kernel
theorem d_L_distance_22 : decode cL_distance 22 = .ok (.ireturn, 1) := by decide +kernel
theorem d_L_distanceAgain_0 : decode cL_distanceAgain 0 = .ok (.aload_n 3, 1) := by decide +kernel
theorem d_L_distanceAgain_1 : decode cL_distanceAgain 1 = .ok (.iconst 0, 1) := by decide +kernel
theorem d_L_distanceAgain_2 : decode cL_distanceAgain 2 = .ok (.aload_n 0, 1) := by decide +kernel
theorem d_L_distanceAgain_3 : decode cL_distanceAgain 3 = .ok (.iload_n 1, 1) := by decide +kernel
theorem d_L_distanceAgain_4 : decode cL_distanceAgain 4 = .ok (.iload_n 2, 1) := by decide +kernel
theorem d_L_distanceAgain_5 : decode cL_distanceAgain 5 = .ok (.invokevirtual 73, 3) := by decide +kernel
theorem d_L_distanceAgain_8 : decode cL_distanceAgain 8 = .ok (.i2l, 1) := by decide +kernel
theorem d_L_distanceAgain_9 : decode cL_distanceAgain 9 = .ok (.lastore, 1) := by decide +kernel
theorem d_L_distanceAgain_10 : decode cL_distanceAgain 10 = .ok (.goto 11, 3) := by decide +kernel
theorem d_L_distanceAgain_13 : decode cL_distanceAgain 13 = .ok (.astore 4, 2) := by decide +kernel
theorem d_L_distanceAgain_15 : decode cL_distanceAgain 15 = .ok (.iconst 1, 1) := by decide +kernel
theorem d_L_distanceAgain_16 : decode cL_distanceAgain 16 = .ok (.ireturn, 1) := by decide +kernel
theorem d_L_distanceAgain_17 : decode cL_distanceAgain 17 = .ok (.astore 4, 2) := by decide +kernel
theorem d_L_distanceAgain_19 : decode cL_distanceAgain 19 = .ok (.iconst 2, 1) := by decide +kernel
theorem d_L_distanceAgain_20 : decode cL_distanceAgain 20 = .ok (.ireturn, 1) := by decide +kernel
theorem d_L_distanceAgain_21 : decode cL_distanceAgain 21 = .ok (.iconst 0, 1) := by decide +kernel
theorem d_L_distanceAgain_22 : decode cL_distanceAgain 22 = .ok (.ireturn, 1) := by decide +kernel
theorem d_L_reach_0 : decode cL_reach 0 = .ok (.aload_n 2, 1) := by decide +kernel
theorem d_L_reach_1 : decode cL_reach 1 = .ok (.iconst 0, 1) := by decide +kernel
theorem d_L_reach_2 : decode cL_reach 2 = .ok (.aload_n 0, 1) := by decide +kernel
theorem d_L_reach_3 : decode cL_reach 3 = .ok (.iload_n 1, 1) := by decide +kernel
theorem d_L_reach_4 : decode cL_reach 4 = .ok (.invokevirtual 76, 3) := by decide +kernel
theorem d_L_reach_7 : decode cL_reach 7 = .ok (.i2l, 1) := by decide +kernel
theorem d_L_reach_8 : decode cL_reach 8 = .ok (.lastore, 1) := by decide +kernel
theorem d_L_reach_9 : decode cL_reach 9 = .ok (.goto 6, 3) := by decide +kernel
theorem d_L_reach_12 : decode cL_reach 12 = .ok (.astore_n 3, 1) := by decide +kernel
theorem d_L_reach_13 : decode cL_reach 13 = .ok (.iconst 1, 1) := by decide +kernel
theorem d_L_reach_14 : decode cL_reach 14 = .ok (.ireturn, 1) := by decide +kernel
theorem d_L_reach_15 : decode cL_reach 15 = .ok (.iconst 0, 1) := by decide +kernel
theorem d_L_reach_16 : decode cL_reach 16 = .ok (.ireturn, 1) := by decide +kernel
theorem d_L_farthest_0 : decode cL_farthest 0 = .ok (.aload_n 2, 1) := by decide +kernel
theorem d_L_farthest_1 : decode cL_farthest 1 = .ok (.iconst 0, 1) := by decide +kernel
theorem d_L_farthest_2 : decode cL_farthest 2 = .ok (.aload_n 0, 1) := by decide +kernel
theorem d_L_farthest_3 : decode cL_farthest 3 = .ok (.iload_n 1, 1) := by decide +kernel
theorem d_L_farthest_4 : decode cL_farthest 4 = .ok (.invokevirtual 79, 3) := by decide +kernel
theorem d_L_farthest_7 : decode cL_farthest 7 = .ok (.i2l, 1) := by decide +kernel
theorem d_L_farthest_8 : decode cL_farthest 8 = .ok (.lastore, 1) := by decide +kernel
theorem d_L_farthest_9 : decode cL_farthest 9 = .ok (.goto 6, 3) := by decide +kernel
theorem d_L_farthest_12 : decode cL_farthest 12 = .ok (.astore_n 3, 1) := by decide +kernel
theorem d_L_farthest_13 : decode cL_farthest 13 = .ok (.iconst 1, 1) := by decide +kernel
theorem d_L_farthest_14 : decode cL_farthest 14 = .ok (.ireturn, 1) := by decide +kernel
theorem d_L_farthest_15 : decode cL_farthest 15 = .ok (.iconst 0, 1) := by decide +kernel
theorem d_L_farthest_16 : decode cL_farthest 16 = .ok (.ireturn, 1) := by decide +kernel
theorem d_L_robotOf_0 : decode cL_robotOf 0 = .ok (.aload_n 3, 1) := by decide +kernel
theorem d_L_robotOf_1 : decode cL_robotOf 1 = .ok (.iconst 0, 1) := by decide +kernel
theorem d_L_robotOf_2 : decode cL_robotOf 2 = .ok (.aload_n 0, 1) := by decide +kernel
theorem d_L_robotOf_3 : decode cL_robotOf 3 = .ok (.iload_n 1, 1) := by decide +kernel
theorem d_L_robotOf_4 : decode cL_robotOf 4 = .ok (.iload_n 2, 1) := by decide +kernel
theorem d_L_robotOf_5 : decode cL_robotOf 5 = .ok (.invokevirtual 82, 3) := by decide +kernel
theorem d_L_robotOf_8 : decode cL_robotOf 8 = .ok (.i2l, 1) := by decide +kernel
theorem d_L_robotOf_9 : decode cL_robotOf 9 = .ok (.lastore, 1) := by decide +kernel
theorem d_L_robotOf_10 : decode cL_robotOf 10 = .ok (.goto 11, 3) := by decide +kernel
theorem d_L_robotOf_13 : decode cL_robotOf 13 = .ok (.astore 4, 2) := by decide +kernel
theorem d_L_robotOf_15 : decode cL_robotOf 15 = .ok (.iconst 1, 1) := by decide +kernel
theorem d_L_robotOf_16 : decode cL_robotOf 16 = .ok (.ireturn, 1) := by decide +kernel
theorem d_L_robotOf_17 : decode cL_robotOf 17 = .ok (.astore 4, 2) := by decide +kernel
theorem d_L_robotOf_19 : decode cL_robotOf 19 = .ok (.iconst 2, 1) := by decide +kernel
theorem d_L_robotOf_20 : decode cL_robotOf 20 = .ok (.ireturn, 1) := by decide +kernel
theorem d_L_robotOf_21 : decode cL_robotOf 21 = .ok (.iconst 0, 1) := by decide +kernel
theorem d_L_robotOf_22 : decode cL_robotOf 22 = .ok (.ireturn, 1) := by decide +kernel
theorem d_L_planned_0 : decode cL_planned 0 = .ok (.aload_n 3, 1) := by decide +kernel
theorem d_L_planned_1 : decode cL_planned 1 = .ok (.iconst 0, 1) := by decide +kernel
theorem d_L_planned_2 : decode cL_planned 2 = .ok (.aload_n 0, 1) := by decide +kernel
theorem d_L_planned_3 : decode cL_planned 3 = .ok (.iload_n 1, 1) := by decide +kernel
theorem d_L_planned_4 : decode cL_planned 4 = .ok (.iload_n 2, 1) := by decide +kernel
theorem d_L_planned_5 : decode cL_planned 5 = .ok (.invokevirtual 85, 3) := by decide +kernel
theorem d_L_planned_8 : decode cL_planned 8 = .ok (.i2l, 1) := by decide +kernel
theorem d_L_planned_9 : decode cL_planned 9 = .ok (.lastore, 1) := by decide +kernel
theorem d_L_planned_10 : decode cL_planned 10 = .ok (.goto 11, 3) := by decide +kernel
theorem d_L_planned_13 : decode cL_planned 13 = .ok (.astore 4, 2) := by decide +kernel
theorem d_L_planned_15 : decode cL_planned 15 = .ok (.iconst 1, 1) := by decide +kernel
theorem d_L_planned_16 : decode cL_planned 16 = .ok (.ireturn, 1) := by decide +kernel
theorem d_L_planned_17 : decode cL_planned 17 = .ok (.astore 4, 2) := by decide +kernel
theorem d_L_planned_19 : decode cL_planned 19 = .ok (.iconst 2, 1) := by decide +kernel
theorem d_L_planned_20 : decode cL_planned 20 = .ok (.ireturn, 1) := by decide +kernel
theorem d_L_planned_21 : decode cL_planned 21 = .ok (.iconst 0, 1) := by decide +kernel
theorem d_L_planned_22 : decode cL_planned 22 = .ok (.ireturn, 1) := by decide +kernel
theorem d_L_reserved_0 : decode cL_reserved 0 = .ok (.aload_n 3, 1) := by decide +kernel
theorem d_L_reserved_1 : decode cL_reserved 1 = .ok (.iconst 0, 1) := by decide +kernel
theorem d_L_reserved_2 : decode cL_reserved 2 = .ok (.aload_n 0, 1) := by decide +kernel
theorem d_L_reserved_3 : decode cL_reserved 3 = .ok (.iload_n 1, 1) := by decide +kernel
theorem d_L_reserved_4 : decode cL_reserved 4 = .ok (.iload_n 2, 1) := by decide +kernel
theorem d_L_reserved_5 : decode cL_reserved 5 = .ok (.invokevirtual 88, 3) := by decide +kernel
theorem d_L_reserved_8 : decode cL_reserved 8 = .ok (.i2l, 1) := by decide +kernel
theorem d_L_reserved_9 : decode cL_reserved 9 = .ok (.lastore, 1) := by decide +kernel
theorem d_L_reserved_10 : decode cL_reserved 10 = .ok (.goto 11, 3) := by decide +kernel
theorem d_L_reserved_13 : decode cL_reserved 13 = .ok (.astore 4, 2) := by decide +kernel
theorem d_L_reserved_15 : decode cL_reserved 15 = .ok (.iconst 1, 1) := by decide +kernel
theorem d_L_reserved_16 : decode cL_reserved 16 = .ok (.ireturn, 1) := by decide +kernel
theorem d_L_reserved_17 : decode cL_reserved 17 = .ok (.astore 4, 2) := by decide +kernel
theorem d_L_reserved_19 : decode cL_reserved 19 = .ok (.iconst 2, 1) := by decide +kernel
theorem d_L_reserved_20 : decode cL_reserved 20 = .ok (.ireturn, 1) := by decide +kernel
theorem d_L_reserved_21 : decode cL_reserved 21 = .ok (.iconst 0, 1) := by decide +kernel
theorem d_L_reserved_22 : decode cL_reserved 22 = .ok (.ireturn, 1) := by decide +kernel
theorem d_L_arrival_0 : decode cL_arrival 0 = .ok (.aload_n 3, 1) := by decide +kernel
theorem d_L_arrival_1 : decode cL_arrival 1 = .ok (.iconst 0, 1) := by decide +kernel
theorem d_L_arrival_2 : decode cL_arrival 2 = .ok (.aload_n 0, 1) := by decide +kernel
theorem d_L_arrival_3 : decode cL_arrival 3 = .ok (.iload_n 1, 1) := by decide +kernel
theorem d_L_arrival_4 : decode cL_arrival 4 = .ok (.iload_n 2, 1) := by decide +kernel
theorem d_L_arrival_5 : decode cL_arrival 5 = .ok (.invokevirtual 91, 3) := by decide +kernel
theorem d_L_arrival_8 : decode cL_arrival 8 = .ok (.i2l, 1) := by decide +kernel
theorem d_L_arrival_9 : decode cL_arrival 9 = .ok (.lastore, 1) := by decide +kernel
theorem d_L_arrival_10 : decode cL_arrival 10 = .ok (.goto 11, 3) := by decide +kernel
theorem d_L_arrival_13 : decode cL_arrival 13 = .ok (.astore 4, 2) := by decide +kernel
theorem d_L_arrival_15 : decode cL_arrival 15 = .ok (.iconst 1, 1) := by decide +kernel
theorem d_L_arrival_16 : decode cL_arrival 16 = .ok (.ireturn, 1) := by decide +kernel
theorem d_L_arrival_17 : decode cL_arrival 17 = .ok (.astore 4, 2) := by decide +kernel
theorem d_L_arrival_19 : decode cL_arrival 19 = .ok (.iconst 2, 1) := by decide +kernel
theorem d_L_arrival_20 : decode cL_arrival 20 = .ok (.ireturn, 1) := by decide +kernel
theorem d_L_arrival_21 : decode cL_arrival 21 = .ok (.iconst 0, 1) := by decide +kernel
theorem d_L_arrival_22 : decode cL_arrival 22 = .ok (.ireturn, 1) := by decide +kernel
theorem d_L_arrivalAgain_0 : decode cL_arrivalAgain 0 = .ok (.aload_n 3, 1) := by decide +kernel
theorem d_L_arrivalAgain_1 : decode cL_arrivalAgain 1 = .ok (.iconst 0, 1) := by decide +kernel
theorem d_L_arrivalAgain_2 : decode cL_arrivalAgain 2 = .ok (.aload_n 0, 1) := by decide +kernel
theorem d_L_arrivalAgain_3 : decode cL_arrivalAgain 3 = .ok (.iload_n 1, 1) := by decide +kernel
theorem d_L_arrivalAgain_4 : decode cL_arrivalAgain 4 = .ok (.iload_n 2, 1) := by decide +kernel
theorem d_L_arrivalAgain_5 : decode cL_arrivalAgain 5 = .ok (.invokevirtual 94, 3) := by decide +kernel
theorem d_L_arrivalAgain_8 : decode cL_arrivalAgain 8 = .ok (.i2l, 1) := by decide +kernel
theorem d_L_arrivalAgain_9 : decode cL_arrivalAgain 9 = .ok (.lastore, 1) := by decide +kernel
theorem d_L_arrivalAgain_10 : decode cL_arrivalAgain 10 = .ok (.goto 11, 3) := by decide +kernel
theorem d_L_arrivalAgain_13 : decode cL_arrivalAgain 13 = .ok (.astore 4, 2) := by decide +kernel
theorem d_L_arrivalAgain_15 : decode cL_arrivalAgain 15 = .ok (.iconst 1, 1) := by decide +kernel
theorem d_L_arrivalAgain_16 : decode cL_arrivalAgain 16 = .ok (.ireturn, 1) := by decide +kernel
theorem d_L_arrivalAgain_17 : decode cL_arrivalAgain 17 = .ok (.astore 4, 2) := by decide +kernel
theorem d_L_arrivalAgain_19 : decode cL_arrivalAgain 19 = .ok (.iconst 2, 1) := by decide +kernel
theorem d_L_arrivalAgain_20 : decode cL_arrivalAgain 20 = .ok (.ireturn, 1) := by decide +kernel
theorem d_L_arrivalAgain_21 : decode cL_arrivalAgain 21 = .ok (.iconst 0, 1) := by decide +kernel
theorem d_L_arrivalAgain_22 : decode cL_arrivalAgain 22 = .ok (.ireturn, 1) := by decide +kernel
theorem d_L_orderOf_0 : decode cL_orderOf 0 = .ok (.aload_n 3, 1) := by decide +kernel
theorem d_L_orderOf_1 : decode cL_orderOf 1 = .ok (.iconst 0, 1) := by decide +kernel
theorem d_L_orderOf_2 : decode cL_orderOf 2 = .ok (.aload_n 0, 1) := by decide +kernel
theorem d_L_orderOf_3 : decode cL_orderOf 3 = .ok (.iload_n 1, 1) := by decide +kernel
theorem d_L_orderOf_4 : decode cL_orderOf 4 = .ok (.iload_n 2, 1) := by decide +kernel
theorem d_L_orderOf_5 : decode cL_orderOf 5 = .ok (.invokevirtual 97, 3) := by decide +kernel
theorem d_L_orderOf_8 : decode cL_orderOf 8 = .ok (.i2l, 1) := by decide +kernel
theorem d_L_orderOf_9 : decode cL_orderOf 9 = .ok (.lastore, 1) := by decide +kernel
theorem d_L_orderOf_10 : decode cL_orderOf 10 = .ok (.goto 11, 3) := by decide +kernel
theorem d_L_orderOf_13 : decode cL_orderOf 13 = .ok (.astore 4, 2) := by decide +kernel
theorem d_L_orderOf_15 : decode cL_orderOf 15 = .ok (.iconst 1, 1) := by decide +kernel
theorem d_L_orderOf_16 : decode cL_orderOf 16 = .ok (.ireturn, 1) := by decide +kernel
theorem d_L_orderOf_17 : decode cL_orderOf 17 = .ok (.astore 4, 2) := by decide +kernel
theorem d_L_orderOf_19 : decode cL_orderOf 19 = .ok (.iconst 2, 1) := by decide +kernel
theorem d_L_orderOf_20 : decode cL_orderOf 20 = .ok (.ireturn, 1) := by decide +kernel
theorem d_L_orderOf_21 : decode cL_orderOf 21 = .ok (.iconst 0, 1) := by decide +kernel
theorem d_L_orderOf_22 : decode cL_orderOf 22 = .ok (.ireturn, 1) := by decide +kernel
theorem d_L_line_0 : decode cL_line 0 = .ok (.aload_n 3, 1) := by decide +kernel
theorem d_L_line_1 : decode cL_line 1 = .ok (.iconst 0, 1) := by decide +kernel
theorem d_L_line_2 : decode cL_line 2 = .ok (.aload_n 0, 1) := by decide +kernel
theorem d_L_line_3 : decode cL_line 3 = .ok (.iload_n 1, 1) := by decide +kernel
theorem d_L_line_4 : decode cL_line 4 = .ok (.iload_n 2, 1) := by decide +kernel
theorem d_L_line_5 : decode cL_line 5 = .ok (.invokevirtual 100, 3) := by decide +kernel
theorem d_L_line_8 : decode cL_line 8 = .ok (.i2l, 1) := by decide +kernel
theorem d_L_line_9 : decode cL_line 9 = .ok (.lastore, 1) := by decide +kernel
theorem d_L_line_10 : decode cL_line 10 = .ok (.goto 7, 3) := by decide +kernel
theorem d_L_line_13 : decode cL_line 13 = .ok (.astore 4, 2) := by decide +kernel
theorem d_L_line_15 : decode cL_line 15 = .ok (.iconst 1, 1) := by decide +kernel
theorem d_L_line_16 : decode cL_line 16 = .ok (.ireturn, 1) := by decide +kernel
theorem d_L_line_17 : decode cL_line 17 = .ok (.iconst 0, 1) := by decide +kernel
theorem d_L_line_18 : decode cL_line 18 = .ok (.ireturn, 1) := by decide +kernel
theorem d_L_waiting_0 : decode cL_waiting 0 = .ok (.aload_n 2, 1) := by decide +kernel
theorem d_L_waiting_1 : decode cL_waiting 1 = .ok (.iconst 0, 1) := by decide +kernel
theorem d_L_waiting_2 : decode cL_waiting 2 = .ok (.aload_n 0, 1) := by decide +kernel
theorem d_L_waiting_3 : decode cL_waiting 3 = .ok (.iload_n 1, 1) := by decide +kernel
theorem d_L_waiting_4 : decode cL_waiting 4 = .ok (.invokevirtual 103, 3) := by decide +kernel
theorem d_L_waiting_7 : decode cL_waiting 7 = .ok (.i2l, 1) := by decide +kernel
theorem d_L_waiting_8 : decode cL_waiting 8 = .ok (.lastore, 1) := by decide +kernel
theorem d_L_waiting_9 : decode cL_waiting 9 = .ok (.goto 6, 3) := by decide +kernel
theorem d_L_waiting_12 : decode cL_waiting 12 = .ok (.astore_n 3, 1) := by decide +kernel
theorem d_L_waiting_13 : decode cL_waiting 13 = .ok (.iconst 1, 1) := by decide +kernel
theorem d_L_waiting_14 : decode cL_waiting 14 = .ok (.ireturn, 1) := by decide +kernel
theorem d_L_waiting_15 : decode cL_waiting 15 = .ok (.iconst 0, 1) := by decide +kernel
theorem d_L_waiting_16 : decode cL_waiting 16 = .ok (.ireturn, 1) := by decide +kernel
theorem d_L_suited_0 : decode cL_suited 0 = .ok (.aload_n 2, 1) := by decide +kernel
theorem d_L_suited_1 : decode cL_suited 1 = .ok (.iconst 0, 1) := by decide +kernel
theorem d_L_suited_2 : decode cL_suited 2 = .ok (.aload_n 0, 1) := by decide +kernel
theorem d_L_suited_3 : decode cL_suited 3 = .ok (.iload_n 1, 1) := by decide +kernel
theorem d_L_suited_4 : decode cL_suited 4 = .ok (.invokevirtual 106, 3) := by decide +kernel
theorem d_L_suited_7 : decode cL_suited 7 = .ok (.i2l, 1) := by decide +kernel
theorem d_L_suited_8 : decode cL_suited 8 = .ok (.lastore, 1) := by decide +kernel
theorem d_L_suited_9 : decode cL_suited 9 = .ok (.goto 9, 3) := by decide +kernel
theorem d_L_suited_12 : decode cL_suited 12 = .ok (.astore_n 3, 1) := by decide +kernel
theorem d_L_suited_13 : decode cL_suited 13 = .ok (.iconst 1, 1) := by decide +kernel
theorem d_L_suited_14 : decode cL_suited 14 = .ok (.ireturn, 1) := by decide +kernel
theorem d_L_suited_15 : decode cL_suited 15 = .ok (.astore_n 3, 1) := by decide +kernel
theorem d_L_suited_16 : decode cL_suited 16 = .ok (.iconst 2, 1) := by decide +kernel
theorem d_L_suited_17 : decode cL_suited 17 = .ok (.ireturn, 1) := by decide +kernel
theorem d_L_suited_18 : decode cL_suited 18 = .ok (.iconst 0, 1) := by decide +kernel
theorem d_L_suited_19 : decode cL_suited 19 = .ok (.ireturn, 1) := by decide +kernel
theorem d_L_tour_0 : decode cL_tour 0 = .ok (.aload_n 2, 1) := by decide +kernel
theorem d_L_tour_1 : decode cL_tour 1 = .ok (.iconst 0, 1) := by decide +kernel
theorem d_L_tour_2 : decode cL_tour 2 = .ok (.aload_n 0, 1) := by decide +kernel
theorem d_L_tour_3 : decode cL_tour 3 = .ok (.iload_n 1, 1) := by decide +kernel
theorem d_L_tour_4 : decode cL_tour 4 = .ok (.invokevirtual 109, 3) := by decide +kernel
theorem d_L_tour_7 : decode cL_tour 7 = .ok (.i2l, 1) := by decide +kernel
theorem d_L_tour_8 : decode cL_tour 8 = .ok (.lastore, 1) := by decide +kernel
theorem d_L_tour_9 : decode cL_tour 9 = .ok (.goto 9, 3) := by decide +kernel
theorem d_L_tour_12 : decode cL_tour 12 = .ok (.astore_n 3, 1) := by decide +kernel
theorem d_L_tour_13 : decode cL_tour 13 = .ok (.iconst 1, 1) := by decide +kernel
theorem d_L_tour_14 : decode cL_tour 14 = .ok (.ireturn, 1) := by decide +kernel
theorem d_L_tour_15 : decode cL_tour 15 = .ok (.astore_n 3, 1) := by decide +kernel
theorem d_L_tour_16 : decode cL_tour 16 = .ok (.iconst 2, 1) := by decide +kernel
theorem d_L_tour_17 : decode cL_tour 17 = .ok (.ireturn, 1) := by decide +kernel
theorem d_L_tour_18 : decode cL_tour 18 = .ok (.iconst 0, 1) := by decide +kernel
theorem d_L_tour_19 : decode cL_tour 19 = .ok (.ireturn, 1) := by decide +kernel
theorem d_L_loaded_0 : decode cL_loaded 0 = .ok (.aload_n 1, 1) := by decide +kernel
theorem d_L_loaded_1 : decode cL_loaded 1 = .ok (.iconst 0, 1) := by decide +kernel
theorem d_L_loaded_2 : decode cL_loaded 2 = .ok (.aload_n 0, 1) := by decide +kernel
theorem d_L_loaded_3 : decode cL_loaded 3 = .ok (.invokevirtual 112, 3) := by decide +kernel
theorem d_L_loaded_6 : decode cL_loaded 6 = .ok (.f2d, 1) := by decide +kernel
theorem d_L_loaded_7 : decode cL_loaded 7 = .ok (.dastore, 1) := by decide +kernel
theorem d_L_loaded_8 : decode cL_loaded 8 = .ok (.goto 6, 3) := by decide +kernel
theorem d_L_loaded_11 : decode cL_loaded 11 = .ok (.astore_n 2, 1) := by decide +kernel
theorem d_L_loaded_12 : decode cL_loaded 12 = .ok (.iconst 1, 1) := by decide +kernel
theorem d_L_loaded_13 : decode cL_loaded 13 = .ok (.ireturn, 1) := by decide +kernel
theorem d_L_loaded_14 : decode cL_loaded 14 = .ok (.iconst 0, 1) := by decide +kernel
theorem d_L_loaded_15 : decode cL_loaded 15 = .ok (.ireturn, 1) := by decide +kernel
theorem d_L_lateness_0 : decode cL_lateness 0 = .ok (.aload_n 1, 1) := by decide +kernel
theorem d_L_lateness_1 : decode cL_lateness 1 = .ok (.iconst 0, 1) := by decide +kernel
theorem d_L_lateness_2 : decode cL_lateness 2 = .ok (.aload_n 0, 1) := by decide +kernel
theorem d_L_lateness_3 : decode cL_lateness 3 = .ok (.invokevirtual 118, 3) := by decide +kernel
theorem d_L_lateness_6 : decode cL_lateness 6 = .ok (.dastore, 1) := by decide +kernel
theorem d_L_lateness_7 : decode cL_lateness 7 = .ok (.goto 6, 3) := by decide +kernel
theorem d_L_lateness_10 : decode cL_lateness 10 = .ok (.astore_n 2, 1) := by decide +kernel
theorem d_L_lateness_11 : decode cL_lateness 11 = .ok (.iconst 1, 1) := by decide +kernel
theorem d_L_lateness_12 : decode cL_lateness 12 = .ok (.ireturn, 1) := by decide +kernel
theorem d_L_lateness_13 : decode cL_lateness 13 = .ok (.iconst 0, 1) := by decide +kernel
theorem d_L_lateness_14 : decode cL_lateness 14 = .ok (.ireturn, 1) := by decide +kernel
theorem d_L_reason_0 : decode cL_reason 0 = .ok (.aload_n 2, 1) := by decide +kernel
theorem d_L_reason_1 : decode cL_reason 1 = .ok (.iconst 0, 1) := by decide +kernel
theorem d_L_reason_2 : decode cL_reason 2 = .ok (.aload_n 0, 1) := by decide +kernel
theorem d_L_reason_3 : decode cL_reason 3 = .ok (.iload_n 1, 1) := by decide +kernel
theorem d_L_reason_4 : decode cL_reason 4 = .ok (.invokevirtual 122, 3) := by decide +kernel
theorem d_L_reason_7 : decode cL_reason 7 = .ok (.i2l, 1) := by decide +kernel
theorem d_L_reason_8 : decode cL_reason 8 = .ok (.lastore, 1) := by decide +kernel
theorem d_L_reason_9 : decode cL_reason 9 = .ok (.goto 6, 3) := by decide +kernel
theorem d_L_reason_12 : decode cL_reason 12 = .ok (.astore_n 3, 1) := by decide +kernel
theorem d_L_reason_13 : decode cL_reason 13 = .ok (.iconst 1, 1) := by decide +kernel
theorem d_L_reason_14 : decode cL_reason 14 = .ok (.ireturn, 1) := by decide +kernel
theorem d_L_reason_15 : decode cL_reason 15 = .ok (.iconst 0, 1) := by decide +kernel
theorem d_L_reason_16 : decode cL_reason 16 = .ok (.ireturn, 1) := by decide +kernel
theorem d_L_account_0 : decode cL_account 0 = .ok (.aload_n 2, 1) := by decide +kernel
theorem d_L_account_1 : decode cL_account 1 = .ok (.iconst 0, 1) := by decide +kernel
theorem d_L_account_2 : decode cL_account 2 = .ok (.aload_n 0, 1) := by decide +kernel
theorem d_L_account_3 : decode cL_account 3 = .ok (.iload_n 1, 1) := by decide +kernel
theorem d_L_account_4 : decode cL_account 4 = .ok (.invokevirtual 126, 3) := by decide +kernel
theorem d_L_account_7 : decode cL_account 7 = .ok (.i2l, 1) := by decide +kernel
theorem d_L_account_8 : decode cL_account 8 = .ok (.lastore, 1) := by decide +kernel
theorem d_L_account_9 : decode cL_account 9 = .ok (.goto 6, 3) := by decide +kernel
theorem d_L_account_12 : decode cL_account 12 = .ok (.astore_n 3, 1) := by decide +kernel
theorem d_L_account_13 : decode cL_account 13 = .ok (.iconst 1, 1) := by decide +kernel
theorem d_L_account_14 : decode cL_account 14 = .ok (.ireturn, 1) := by decide +kernel
theorem d_L_account_15 : decode cL_account 15 = .ok (.iconst 0, 1) := by decide +kernel
theorem d_L_account_16 : decode cL_account 16 = .ok (.ireturn, 1) := by decide +kernel
theorem d_L_undo_0 : decode cL_undo 0 = .ok (.aload_n 1, 1) := by decide +kernel
theorem d_L_undo_1 : decode cL_undo 1 = .ok (.iconst 0, 1) := by decide +kernel
theorem d_L_undo_2 : decode cL_undo 2 = .ok (.aload_n 0, 1) := by decide +kernel
theorem d_L_undo_3 : decode cL_undo 3 = .ok (.invokevirtual 129, 3) := by decide +kernel
theorem d_L_undo_6 : decode cL_undo 6 = .ok (.i2l, 1) := by decide +kernel
theorem d_L_undo_7 : decode cL_undo 7 = .ok (.lastore, 1) := by decide +kernel
theorem d_L_undo_8 : decode cL_undo 8 = .ok (.goto 6, 3) := by decide +kernel
theorem d_L_undo_11 : decode cL_undo 11 = .ok (.astore_n 2, 1) := by decide +kernel
theorem d_L_undo_12 : decode cL_undo 12 = .ok (.iconst 1, 1) := by decide +kernel
theorem d_L_undo_13 : decode cL_undo 13 = .ok (.ireturn, 1) := by decide +kernel
theorem d_L_undo_14 : decode cL_undo 14 = .ok (.iconst 0, 1) := by decide +kernel
theorem d_L_undo_15 : decode cL_undo 15 = .ok (.ireturn, 1) := by decide +kernel
theorem d_L_restore_0 : decode cL_restore 0 = .ok (.aload_n 1, 1) := by decide +kernel
theorem d_L_restore_1 : decode cL_restore 1 = .ok (.iconst 0, 1) := by decide +kernel
theorem d_L_restore_2 : decode cL_restore 2 = .ok (.aload_n 0, 1) := by decide +kernel
theorem d_L_restore_3 : decode cL_restore 3 = .ok (.invokevirtual 132, 3) := by decide +kernel
theorem d_L_restore_6 : decode cL_restore 6 = .ok (.i2l, 1) := by decide +kernel
theorem d_L_restore_7 : decode cL_restore 7 = .ok (.lastore, 1) := by decide +kernel
theorem d_L_restore_8 : decode cL_restore 8 = .ok (.goto 6, 3) := by decide +kernel
theorem d_L_restore_11 : decode cL_restore 11 = .ok (.astore_n 2, 1) := by decide +kernel
theorem d_L_restore_12 : decode cL_restore 12 = .ok (.iconst 1, 1) := by decide +kernel
theorem d_L_restore_13 : decode cL_restore 13 = .ok (.ireturn, 1) := by decide +kernel
theorem d_L_restore_14 : decode cL_restore 14 = .ok (.iconst 0, 1) := by decide +kernel
theorem d_L_restore_15 : decode cL_restore 15 = .ok (.ireturn, 1) := by decide +kernel
