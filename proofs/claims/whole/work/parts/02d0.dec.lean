theorem dX0_init_0 : decode cX0_init 0 = .ok (.aload_n 0, 1) := by decide +kernel
theorem dX0_init_1 : decode cX0_init 1 = .ok (.invokespecial 1, 3) := by decide +kernel
theorem dX0_init_4 : decode cX0_init 4 = .ok (.aload_n 0, 1) := by decide +kernel
theorem dX0_init_5 : decode cX0_init 5 = .ok (.sipush 200, 3) := by decide +kernel
theorem dX0_init_8 : decode cX0_init 8 = .ok (.newarray .int, 2) := by decide +kernel
theorem dX0_init_10 : decode cX0_init 10 = .ok (.putfield 9, 3) := by decide +kernel
theorem dX0_init_13 : decode cX0_init 13 = .ok (.aload_n 0, 1) := by decide +kernel
theorem dX0_init_14 : decode cX0_init 14 = .ok (.sipush 200, 3) := by decide +kernel
theorem dX0_init_17 : decode cX0_init 17 = .ok (.newarray .boolean, 2) := by decide +kernel
theorem dX0_init_19 : decode cX0_init 19 = .ok (.putfield 13, 3) := by decide +kernel
theorem dX0_init_22 : decode cX0_init 22 = .ok (.aload_n 0, 1) := by decide +kernel
theorem dX0_init_23 : decode cX0_init 23 = .ok (.sipush 200, 3) := by decide +kernel
theorem dX0_init_26 : decode cX0_init 26 = .ok (.newarray .int, 2) := by decide +kernel
theorem dX0_init_28 : decode cX0_init 28 = .ok (.putfield 17, 3) := by decide +kernel
theorem dX0_init_31 : decode cX0_init 31 = .ok (.aload_n 0, 1) := by decide +kernel
theorem dX0_init_32 : decode cX0_init 32 = .ok (.sipush 1200, 3) := by decide +kernel
theorem dX0_init_35 : decode cX0_init 35 = .ok (.newarray .int, 2) := by decide +kernel
theorem dX0_init_37 : decode cX0_init 37 = .ok (.putfield 20, 3) := by decide +kernel
theorem dX0_init_40 : decode cX0_init 40 = .ok (.aload_n 0, 1) := by decide +kernel
theorem dX0_init_41 : decode cX0_init 41 = .ok (.bipush 6, 2) := by decide +kernel
theorem dX0_init_43 : decode cX0_init 43 = .ok (.newarray .int, 2) := by decide +kernel
theorem dX0_init_45 : decode cX0_init 45 = .ok (.putfield 23, 3) := by decide +kernel
theorem dX0_init_48 : decode cX0_init 48 = .ok (.aload_n 0, 1) := by decide +kernel
theorem dX0_init_49 : decode cX0_init 49 = .ok (.iconst 0, 1) := by decide +kernel
theorem dX0_init_50 : decode cX0_init 50 = .ok (.putfield 26, 3) := by decide +kernel
theorem dX0_init_53 : decode cX0_init 53 = .ok (.return_, 1) := by decide +kernel
theorem dX0_whole_0 : decode cX0_whole 0 = .ok (.iconst 0, 1) := by decide +kernel
theorem dX0_whole_1 : decode cX0_whole 1 = .ok (.istore_n 1, 1) := by decide +kernel
theorem dX0_whole_2 : decode cX0_whole 2 = .ok (.iload_n 1, 1) := by decide +kernel
theorem dX0_whole_3 : decode cX0_whole 3 = .ok (.aload_n 0, 1) := by decide +kernel
theorem dX0_whole_4 : decode cX0_whole 4 = .ok (.getfield 26, 3) := by decide +kernel
theorem dX0_whole_7 : decode cX0_whole 7 = .ok (.if_icmp .ge 27, 3) := by decide +kernel
theorem dX0_whole_10 : decode cX0_whole 10 = .ok (.aload_n 0, 1) := by decide +kernel
theorem dX0_whole_11 : decode cX0_whole 11 = .ok (.iload_n 1, 1) := by decide +kernel
theorem dX0_whole_12 : decode cX0_whole 12 = .ok (.invokevirtual 71, 3) := by decide +kernel
theorem dX0_whole_15 : decode cX0_whole 15 = .ok (.ifCond .eq 13, 3) := by decide +kernel
theorem dX0_whole_18 : decode cX0_whole 18 = .ok (.aload_n 0, 1) := by decide +kernel
theorem dX0_whole_19 : decode cX0_whole 19 = .ok (.iload_n 1, 1) := by decide +kernel
theorem dX0_whole_20 : decode cX0_whole 20 = .ok (.invokevirtual 74, 3) := by decide +kernel
theorem dX0_whole_23 : decode cX0_whole 23 = .ok (.ifCond .ne 5, 3) := by decide +kernel
theorem dX0_whole_26 : decode cX0_whole 26 = .ok (.iconst 0, 1) := by decide +kernel
theorem dX0_whole_27 : decode cX0_whole 27 = .ok (.ireturn, 1) := by decide +kernel
theorem dX0_whole_28 : decode cX0_whole 28 = .ok (.iinc 1 1, 3) := by decide +kernel
theorem dX0_whole_31 : decode cX0_whole 31 = .ok (.goto (-29), 3) := by decide +kernel
theorem dX0_whole_34 : decode cX0_whole 34 = .ok (.iconst 1, 1) := by decide +kernel
theorem dX0_whole_35 : decode cX0_whole 35 = .ok (.ireturn, 1) := by decide +kernel
theorem dX0_isInCut_0 : decode cX0_isInCut 0 = .ok (.aload_n 0, 1) := by decide +kernel
theorem dX0_isInCut_1 : decode cX0_isInCut 1 = .ok (.iload_n 1, 1) := by decide +kernel
theorem dX0_isInCut_2 : decode cX0_isInCut 2 = .ok (.invokevirtual 84, 3) := by decide +kernel
theorem dX0_isInCut_5 : decode cX0_isInCut 5 = .ok (.aload_n 0, 1) := by decide +kernel
theorem dX0_isInCut_6 : decode cX0_isInCut 6 = .ok (.getfield 23, 3) := by decide +kernel
theorem dX0_isInCut_9 : decode cX0_isInCut 9 = .ok (.aload_n 0, 1) := by decide +kernel
theorem dX0_isInCut_10 : decode cX0_isInCut 10 = .ok (.getfield 9, 3) := by decide +kernel
theorem dX0_isInCut_13 : decode cX0_isInCut 13 = .ok (.iload_n 1, 1) := by decide +kernel
theorem dX0_isInCut_14 : decode cX0_isInCut 14 = .ok (.iaload, 1) := by decide +kernel
theorem dX0_isInCut_15 : decode cX0_isInCut 15 = .ok (.iaload, 1) := by decide +kernel
theorem dX0_isInCut_16 : decode cX0_isInCut 16 = .ok (.if_icmp .gt 7, 3) := by decide +kernel
theorem dX0_isInCut_19 : decode cX0_isInCut 19 = .ok (.iconst 1, 1) := by decide +kernel
theorem dX0_isInCut_20 : decode cX0_isInCut 20 = .ok (.goto 4, 3) := by decide +kernel
theorem dX0_isInCut_23 : decode cX0_isInCut 23 = .ok (.iconst 0, 1) := by decide +kernel
theorem dX0_isInCut_24 : decode cX0_isInCut 24 = .ok (.ireturn, 1) := by decide +kernel
theorem dX0_placeOf_0 : decode cX0_placeOf 0 = .ok (.aload_n 0, 1) := by decide +kernel
theorem dX0_placeOf_1 : decode cX0_placeOf 1 = .ok (.iload_n 1, 1) := by decide +kernel
theorem dX0_placeOf_2 : decode cX0_placeOf 2 = .ok (.aload_n 0, 1) := by decide +kernel
theorem dX0_placeOf_3 : decode cX0_placeOf 3 = .ok (.getfield 9, 3) := by decide +kernel
theorem dX0_placeOf_6 : decode cX0_placeOf 6 = .ok (.iload_n 1, 1) := by decide +kernel
theorem dX0_placeOf_7 : decode cX0_placeOf 7 = .ok (.iaload, 1) := by decide +kernel
theorem dX0_placeOf_8 : decode cX0_placeOf 8 = .ok (.invokevirtual 68, 3) := by decide +kernel
theorem dX0_placeOf_11 : decode cX0_placeOf 11 = .ok (.ireturn, 1) := by decide +kernel
theorem dX0_clockOf_0 : decode cX0_clockOf 0 = .ok (.iload_n 1, 1) := by decide +kernel
theorem dX0_clockOf_1 : decode cX0_clockOf 1 = .ok (.iconst (-1), 1) := by decide +kernel
theorem dX0_clockOf_2 : decode cX0_clockOf 2 = .ok (.if_icmp .ne 7, 3) := by decide +kernel
theorem dX0_clockOf_5 : decode cX0_clockOf 5 = .ok (.iconst 0, 1) := by decide +kernel
theorem dX0_clockOf_6 : decode cX0_clockOf 6 = .ok (.goto 14, 3) := by decide +kernel
theorem dX0_clockOf_9 : decode cX0_clockOf 9 = .ok (.aload_n 0, 1) := by decide +kernel
theorem dX0_clockOf_10 : decode cX0_clockOf 10 = .ok (.getfield 20, 3) := by decide +kernel
theorem dX0_clockOf_13 : decode cX0_clockOf 13 = .ok (.iload_n 1, 1) := by decide +kernel
theorem dX0_clockOf_14 : decode cX0_clockOf 14 = .ok (.bipush 6, 2) := by decide +kernel
theorem dX0_clockOf_16 : decode cX0_clockOf 16 = .ok (.imul, 1) := by decide +kernel
theorem dX0_clockOf_17 : decode cX0_clockOf 17 = .ok (.iload_n 2, 1) := by decide +kernel
theorem dX0_clockOf_18 : decode cX0_clockOf 18 = .ok (.iadd, 1) := by decide +kernel
theorem dX0_clockOf_19 : decode cX0_clockOf 19 = .ok (.iaload, 1) := by decide +kernel
theorem dX0_clockOf_20 : decode cX0_clockOf 20 = .ok (.ireturn, 1) := by decide +kernel
theorem dX0_isCoveredByCut_0 : decode cX0_isCoveredByCut 0 = .ok (.iconst 0, 1) := by decide +kernel
theorem dX0_isCoveredByCut_1 : decode cX0_isCoveredByCut 1 = .ok (.istore_n 2, 1) := by decide +kernel
theorem dX0_isCoveredByCut_2 : decode cX0_isCoveredByCut 2 = .ok (.iload_n 2, 1) := by decide +kernel
theorem dX0_isCoveredByCut_3 : decode cX0_isCoveredByCut 3 = .ok (.bipush 6, 2) := by decide +kernel
theorem dX0_isCoveredByCut_5 : decode cX0_isCoveredByCut 5 = .ok (.if_icmp .ge 26, 3) := by decide +kernel
theorem dX0_isCoveredByCut_8 : decode cX0_isCoveredByCut 8 = .ok (.aload_n 0, 1) := by decide +kernel
theorem dX0_isCoveredByCut_9 : decode cX0_isCoveredByCut 9 = .ok (.iload_n 1, 1) := by decide +kernel
theorem dX0_isCoveredByCut_10 : decode cX0_isCoveredByCut 10 = .ok (.iload_n 2, 1) := by decide +kernel
theorem dX0_isCoveredByCut_11 : decode cX0_isCoveredByCut 11 = .ok (.invokevirtual 68, 3) := by decide +kernel
theorem dX0_isCoveredByCut_14 : decode cX0_isCoveredByCut 14 = .ok (.aload_n 0, 1) := by decide +kernel
theorem dX0_isCoveredByCut_15 : decode cX0_isCoveredByCut 15 = .ok (.getfield 23, 3) := by decide +kernel
theorem dX0_isCoveredByCut_18 : decode cX0_isCoveredByCut 18 = .ok (.iload_n 2, 1) := by decide +kernel
theorem dX0_isCoveredByCut_19 : decode cX0_isCoveredByCut 19 = .ok (.iaload, 1) := by decide +kernel
theorem dX0_isCoveredByCut_20 : decode cX0_isCoveredByCut 20 = .ok (.if_icmp .le 5, 3) := by decide +kernel
theorem dX0_isCoveredByCut_23 : decode cX0_isCoveredByCut 23 = .ok (.iconst 0, 1) := by decide +kernel
theorem dX0_isCoveredByCut_24 : decode cX0_isCoveredByCut 24 = .ok (.ireturn, 1) := by decide +kernel
theorem dX0_isCoveredByCut_25 : decode cX0_isCoveredByCut 25 = .ok (.iinc 2 1, 3) := by decide +kernel
theorem dX0_isCoveredByCut_28 : decode cX0_isCoveredByCut 28 = .ok (.goto (-26), 3) := by decide +kernel
theorem dX0_isCoveredByCut_31 : decode cX0_isCoveredByCut 31 = .ok (.iconst 1, 1) := by decide +kernel
theorem dX0_isCoveredByCut_32 : decode cX0_isCoveredByCut 32 = .ok (.ireturn, 1) := by decide +kernel
theorem dX0_close_0 : decode cX0_close 0 = .ok (.iconst 0, 1) := by decide +kernel
theorem dX0_close_1 : decode cX0_close 1 = .ok (.istore_n 1, 1) := by decide +kernel
theorem dX0_close_2 : decode cX0_close 2 = .ok (.iload_n 1, 1) := by decide +kernel
theorem dX0_close_3 : decode cX0_close 3 = .ok (.aload_n 0, 1) := by decide +kernel
theorem dX0_close_4 : decode cX0_close 4 = .ok (.getfield 26, 3) := by decide +kernel
theorem dX0_close_7 : decode cX0_close 7 = .ok (.if_icmp .ge 22, 3) := by decide +kernel
theorem dX0_close_10 : decode cX0_close 10 = .ok (.aload_n 0, 1) := by decide +kernel
theorem dX0_close_11 : decode cX0_close 11 = .ok (.iload_n 1, 1) := by decide +kernel
theorem dX0_close_12 : decode cX0_close 12 = .ok (.invokevirtual 71, 3) := by decide +kernel
theorem dX0_close_15 : decode cX0_close 15 = .ok (.ifCond .eq 8, 3) := by decide +kernel
theorem dX0_close_18 : decode cX0_close 18 = .ok (.aload_n 0, 1) := by decide +kernel
theorem dX0_close_19 : decode cX0_close 19 = .ok (.iload_n 1, 1) := by decide +kernel
theorem dX0_close_20 : decode cX0_close 20 = .ok (.invokevirtual 77, 3) := by decide +kernel
theorem dX0_close_23 : decode cX0_close 23 = .ok (.iinc 1 1, 3) := by decide +kernel
theorem dX0_close_26 : decode cX0_close 26 = .ok (.goto (-24), 3) := by decide +kernel
theorem dX0_close_29 : decode cX0_close 29 = .ok (.aload_n 0, 1) := by decide +kernel
theorem dX0_close_30 : decode cX0_close 30 = .ok (.invokevirtual 80, 3) := by decide +kernel
theorem dX0_close_33 : decode cX0_close 33 = .ok (.ireturn, 1) := by decide +kernel
theorem dX0_growCutTo_0 : decode cX0_growCutTo 0 = .ok (.iconst 0, 1) := by decide +kernel
theorem dX0_growCutTo_1 : decode cX0_growCutTo 1 = .ok (.istore_n 2, 1) := by decide +kernel
theorem dX0_growCutTo_2 : decode cX0_growCutTo 2 = .ok (.iload_n 2, 1) := by decide +kernel
theorem dX0_growCutTo_3 : decode cX0_growCutTo 3 = .ok (.bipush 6, 2) := by decide +kernel
theorem dX0_growCutTo_5 : decode cX0_growCutTo 5 = .ok (.if_icmp .ge 30, 3) := by decide +kernel
theorem dX0_growCutTo_8 : decode cX0_growCutTo 8 = .ok (.aload_n 0, 1) := by decide +kernel
theorem dX0_growCutTo_9 : decode cX0_growCutTo 9 = .ok (.getfield 23, 3) := by decide +kernel
theorem dX0_growCutTo_12 : decode cX0_growCutTo 12 = .ok (.iload_n 2, 1) := by decide +kernel
theorem dX0_growCutTo_13 : decode cX0_growCutTo 13 = .ok (.aload_n 0, 1) := by decide +kernel
theorem dX0_growCutTo_14 : decode cX0_growCutTo 14 = .ok (.getfield 23, 3) := by decide +kernel
theorem dX0_growCutTo_17 : decode cX0_growCutTo 17 = .ok (.iload_n 2, 1) := by decide +kernel
theorem dX0_growCutTo_18 : decode cX0_growCutTo 18 = .ok (.iaload, 1) := by decide +kernel
theorem dX0_growCutTo_19 : decode cX0_growCutTo 19 = .ok (.aload_n 0, 1) := by decide +kernel
theorem dX0_growCutTo_20 : decode cX0_growCutTo 20 = .ok (.iload_n 1, 1) := by decide +kernel
theorem dX0_growCutTo_21 : decode cX0_growCutTo 21 = .ok (.iload_n 2, 1) := by decide +kernel
theorem dX0_growCutTo_22 : decode cX0_growCutTo 22 = .ok (.invokevirtual 68, 3) := by decide +kernel
theorem dX0_growCutTo_25 : decode cX0_growCutTo 25 = .ok (.invokestatic 99, 3) := by decide +kernel
theorem dX0_growCutTo_28 : decode cX0_growCutTo 28 = .ok (.iastore, 1) := by decide +kernel
theorem dX0_growCutTo_29 : decode cX0_growCutTo 29 = .ok (.iinc 2 1, 3) := by decide +kernel
theorem dX0_growCutTo_32 : decode cX0_growCutTo 32 = .ok (.goto (-30), 3) := by decide +kernel
theorem dX0_growCutTo_35 : decode cX0_growCutTo 35 = .ok (.return_, 1) := by decide +kernel
theorem dX0_cutTotal_0 : decode cX0_cutTotal 0 = .ok (.iconst 0, 1) := by decide +kernel
theorem dX0_cutTotal_1 : decode cX0_cutTotal 1 = .ok (.istore_n 1, 1) := by decide +kernel
theorem dX0_cutTotal_2 : decode cX0_cutTotal 2 = .ok (.iconst 0, 1) := by decide +kernel
theorem dX0_cutTotal_3 : decode cX0_cutTotal 3 = .ok (.istore_n 2, 1) := by decide +kernel
theorem dX0_cutTotal_4 : decode cX0_cutTotal 4 = .ok (.iload_n 2, 1) := by decide +kernel
theorem dX0_cutTotal_5 : decode cX0_cutTotal 5 = .ok (.bipush 6, 2) := by decide +kernel
theorem dX0_cutTotal_7 : decode cX0_cutTotal 7 = .ok (.if_icmp .ge 18, 3) := by decide +kernel
theorem dX0_cutTotal_10 : decode cX0_cutTotal 10 = .ok (.iload_n 1, 1) := by decide +kernel
theorem dX0_cutTotal_11 : decode cX0_cutTotal 11 = .ok (.aload_n 0, 1) := by decide +kernel
theorem dX0_cutTotal_12 : decode cX0_cutTotal 12 = .ok (.getfield 23, 3) := by decide +kernel
theorem dX0_cutTotal_15 : decode cX0_cutTotal 15 = .ok (.iload_n 2, 1) := by decide +kernel
theorem dX0_cutTotal_16 : decode cX0_cutTotal 16 = .ok (.iaload, 1) := by decide +kernel
theorem dX0_cutTotal_17 : decode cX0_cutTotal 17 = .ok (.iadd, 1) := by decide +kernel
theorem dX0_cutTotal_18 : decode cX0_cutTotal 18 = .ok (.istore_n 1, 1) := by decide +kernel
theorem dX0_cutTotal_19 : decode cX0_cutTotal 19 = .ok (.iinc 2 1, 3) := by decide +kernel
theorem dX0_cutTotal_22 : decode cX0_cutTotal 22 = .ok (.goto (-18), 3) := by decide +kernel
theorem dX0_cutTotal_25 : decode cX0_cutTotal 25 = .ok (.iload_n 1, 1) := by decide +kernel
theorem dX0_cutTotal_26 : decode cX0_cutTotal 26 = .ok (.ireturn, 1) := by decide +kernel
theorem dX0_open_0 : decode cX0_open 0 = .ok (.iconst 0, 1) := by decide +kernel
theorem dX0_open_1 : decode cX0_open 1 = .ok (.istore_n 1, 1) := by decide +kernel
theorem dX0_open_2 : decode cX0_open 2 = .ok (.iload_n 1, 1) := by decide +kernel
theorem dX0_open_3 : decode cX0_open 3 = .ok (.aload_n 0, 1) := by decide +kernel
theorem dX0_open_4 : decode cX0_open 4 = .ok (.getfield 26, 3) := by decide +kernel
theorem dX0_open_7 : decode cX0_open 7 = .ok (.if_icmp .ge 43, 3) := by decide +kernel
theorem dX0_open_10 : decode cX0_open 10 = .ok (.aload_n 0, 1) := by decide +kernel
theorem dX0_open_11 : decode cX0_open 11 = .ok (.iload_n 1, 1) := by decide +kernel
theorem dX0_open_12 : decode cX0_open 12 = .ok (.invokevirtual 71, 3) := by decide +kernel
theorem dX0_open_15 : decode cX0_open 15 = .ok (.ifCond .eq 29, 3) := by decide +kernel
theorem dX0_open_18 : decode cX0_open 18 = .ok (.aload_n 0, 1) := by decide +kernel
theorem dX0_open_19 : decode cX0_open 19 = .ok (.iload_n 1, 1) := by decide +kernel
theorem dX0_open_20 : decode cX0_open 20 = .ok (.invokevirtual 74, 3) := by decide +kernel
theorem dX0_open_23 : decode cX0_open 23 = .ok (.ifCond .ne 21, 3) := by decide +kernel
theorem dX0_open_26 : decode cX0_open 26 = .ok (.aload_n 0, 1) := by decide +kernel
theorem dX0_open_27 : decode cX0_open 27 = .ok (.getfield 23, 3) := by decide +kernel
theorem dX0_open_30 : decode cX0_open 30 = .ok (.aload_n 0, 1) := by decide +kernel
theorem dX0_open_31 : decode cX0_open 31 = .ok (.getfield 9, 3) := by decide +kernel
theorem dX0_open_34 : decode cX0_open 34 = .ok (.iload_n 1, 1) := by decide +kernel
theorem dX0_open_35 : decode cX0_open 35 = .ok (.iaload, 1) := by decide +kernel
theorem dX0_open_36 : decode cX0_open 36 = .ok (.aload_n 0, 1) := by decide +kernel
theorem dX0_open_37 : decode cX0_open 37 = .ok (.iload_n 1, 1) := by decide +kernel
theorem dX0_open_38 : decode cX0_open 38 = .ok (.invokevirtual 84, 3) := by decide +kernel
theorem dX0_open_41 : decode cX0_open 41 = .ok (.iconst 1, 1) := by decide +kernel
theorem dX0_open_42 : decode cX0_open 42 = .ok (.isub, 1) := by decide +kernel
theorem dX0_open_43 : decode cX0_open 43 = .ok (.iastore, 1) := by decide +kernel
theorem dX0_open_44 : decode cX0_open 44 = .ok (.iinc 1 1, 3) := by decide +kernel
theorem dX0_open_47 : decode cX0_open 47 = .ok (.goto (-45), 3) := by decide +kernel
theorem dX0_open_50 : decode cX0_open 50 = .ok (.aload_n 0, 1) := by decide +kernel
theorem dX0_open_51 : decode cX0_open 51 = .ok (.invokevirtual 80, 3) := by decide +kernel
theorem dX0_open_54 : decode cX0_open 54 = .ok (.ireturn, 1) := by decide +kernel
theorem dX0_own_0 : decode cX0_own 0 = .ok (.iload_n 1, 1) := by decide +kernel
theorem dX0_own_1 : decode cX0_own 1 = .ok (.invokestatic 30, 3) := by decide +kernel
theorem dX0_own_4 : decode cX0_own 4 = .ok (.aload_n 0, 1) := by decide +kernel
theorem dX0_own_5 : decode cX0_own 5 = .ok (.invokevirtual 34, 3) := by decide +kernel
theorem dX0_own_8 : decode cX0_own 8 = .ok (.aload_n 0, 1) := by decide +kernel
theorem dX0_own_9 : decode cX0_own 9 = .ok (.iload_n 1, 1) := by decide +kernel
theorem dX0_own_10 : decode cX0_own 10 = .ok (.iconst 0, 1) := by decide +kernel
theorem dX0_own_11 : decode cX0_own 11 = .ok (.iconst (-1), 1) := by decide +kernel
theorem dX0_own_12 : decode cX0_own 12 = .ok (.invokevirtual 37, 3) := by decide +kernel
theorem dX0_own_15 : decode cX0_own 15 = .ok (.ireturn, 1) := by decide +kernel
theorem dX0_needProcess_0 : decode cX0_needProcess 0 = .ok (.iload_n 0, 1) := by decide +kernel
theorem dX0_needProcess_1 : decode cX0_needProcess 1 = .ok (.ifCond .lt 9, 3) := by decide +kernel
theorem dX0_needProcess_4 : decode cX0_needProcess 4 = .ok (.iload_n 0, 1) := by decide +kernel
theorem dX0_needProcess_5 : decode cX0_needProcess 5 = .ok (.bipush 6, 2) := by decide +kernel
theorem dX0_needProcess_7 : decode cX0_needProcess 7 = .ok (.if_icmp .lt 11, 3) := by decide +kernel
theorem dX0_needProcess_10 : decode cX0_needProcess 10 = .ok (.new 45, 3) := by decide +kernel
theorem dX0_needProcess_13 : decode cX0_needProcess 13 = .ok (.dup, 1) := by decide +kernel
theorem dX0_needProcess_14 : decode cX0_needProcess 14 = .ok (.invokespecial 47, 3) := by decide +kernel
theorem dX0_needProcess_17 : decode cX0_needProcess 17 = .ok (.athrow, 1) := by decide +kernel
theorem dX0_needProcess_18 : decode cX0_needProcess 18 = .ok (.return_, 1) := by decide +kernel
theorem dX0_needRoom_0 : decode cX0_needRoom 0 = .ok (.aload_n 0, 1) := by decide +kernel
theorem dX0_needRoom_1 : decode cX0_needRoom 1 = .ok (.getfield 26, 3) := by decide +kernel
theorem dX0_needRoom_4 : decode cX0_needRoom 4 = .ok (.sipush 200, 3) := by decide +kernel
theorem dX0_needRoom_7 : decode cX0_needRoom 7 = .ok (.if_icmp .lt 11, 3) := by decide +kernel
theorem dX0_needRoom_10 : decode cX0_needRoom 10 = .ok (.new 93, 3) := by decide +kernel
theorem dX0_needRoom_13 : decode cX0_needRoom 13 = .ok (.dup, 1) := by decide +kernel
theorem dX0_needRoom_14 : decode cX0_needRoom 14 = .ok (.invokespecial 95, 3) := by decide +kernel
theorem dX0_needRoom_17 : decode cX0_needRoom 17 = .ok (.athrow, 1) := by decide +kernel
theorem dX0_needRoom_18 : decode cX0_needRoom 18 = .ok (.return_, 1) := by decide +kernel
theorem dX0_add_0 : decode cX0_add 0 = .ok (.aload_n 0, 1) := by decide +kernel
theorem dX0_add_1 : decode cX0_add 1 = .ok (.getfield 26, 3) := by decide +kernel
theorem dX0_add_4 : decode cX0_add 4 = .ok (.istore 4, 2) := by decide +kernel
theorem dX0_add_6 : decode cX0_add 6 = .ok (.aload_n 0, 1) := by decide +kernel
theorem dX0_add_7 : decode cX0_add 7 = .ok (.iload_n 1, 1) := by decide +kernel
theorem dX0_add_8 : decode cX0_add 8 = .ok (.invokevirtual 96, 3) := by decide +kernel
theorem dX0_add_11 : decode cX0_add 11 = .ok (.istore 5, 2) := by decide +kernel
theorem dX0_add_13 : decode cX0_add 13 = .ok (.iconst 0, 1) := by decide +kernel
theorem dX0_add_14 : decode cX0_add 14 = .ok (.istore 6, 2) := by decide +kernel
theorem dX0_add_16 : decode cX0_add 16 = .ok (.iload 6, 2) := by decide +kernel
theorem dX0_add_18 : decode cX0_add 18 = .ok (.bipush 6, 2) := by decide +kernel
theorem dX0_add_20 : decode cX0_add 20 = .ok (.if_icmp .ge 40, 3) := by decide +kernel
theorem dX0_add_23 : decode cX0_add 23 = .ok (.aload_n 0, 1) := by decide +kernel
theorem dX0_add_24 : decode cX0_add 24 = .ok (.getfield 20, 3) := by decide +kernel
theorem dX0_add_27 : decode cX0_add 27 = .ok (.iload 4, 2) := by decide +kernel
theorem dX0_add_29 : decode cX0_add 29 = .ok (.bipush 6, 2) := by decide +kernel
theorem dX0_add_31 : decode cX0_add 31 = .ok (.imul, 1) := by decide +kernel
theorem dX0_add_32 : decode cX0_add 32 = .ok (.iload 6, 2) := by decide +kernel
theorem dX0_add_34 : decode cX0_add 34 = .ok (.iadd, 1) := by decide +kernel
theorem dX0_add_35 : decode cX0_add 35 = .ok (.aload_n 0, 1) := by decide +kernel
theorem dX0_add_36 : decode cX0_add 36 = .ok (.iload 5, 2) := by decide +kernel
theorem dX0_add_38 : decode cX0_add 38 = .ok (.iload 6, 2) := by decide +kernel
theorem dX0_add_40 : decode cX0_add 40 = .ok (.invokevirtual 68, 3) := by decide +kernel
theorem dX0_add_43 : decode cX0_add 43 = .ok (.aload_n 0, 1) := by decide +kernel
theorem dX0_add_44 : decode cX0_add 44 = .ok (.iload_n 3, 1) := by decide +kernel
theorem dX0_add_45 : decode cX0_add 45 = .ok (.iload 6, 2) := by decide +kernel
theorem dX0_add_47 : decode cX0_add 47 = .ok (.invokevirtual 68, 3) := by decide +kernel
theorem dX0_add_50 : decode cX0_add 50 = .ok (.invokestatic 99, 3) := by decide +kernel
theorem dX0_add_53 : decode cX0_add 53 = .ok (.iastore, 1) := by decide +kernel
theorem dX0_add_54 : decode cX0_add 54 = .ok (.iinc 6 1, 3) := by decide +kernel
theorem dX0_add_57 : decode cX0_add 57 = .ok (.goto (-41), 3) := by decide +kernel
theorem dX0_add_60 : decode cX0_add 60 = .ok (.aload_n 0, 1) := by decide +kernel
theorem dX0_add_61 : decode cX0_add 61 = .ok (.getfield 20, 3) := by decide +kernel
theorem dX0_add_64 : decode cX0_add 64 = .ok (.iload 4, 2) := by decide +kernel
theorem dX0_add_66 : decode cX0_add 66 = .ok (.bipush 6, 2) := by decide +kernel
theorem dX0_add_68 : decode cX0_add 68 = .ok (.imul, 1) := by decide +kernel
theorem dX0_add_69 : decode cX0_add 69 = .ok (.iload_n 1, 1) := by decide +kernel
theorem dX0_add_70 : decode cX0_add 70 = .ok (.iadd, 1) := by decide +kernel
theorem dX0_add_71 : decode cX0_add 71 = .ok (.dup2, 1) := by decide +kernel
theorem dX0_add_72 : decode cX0_add 72 = .ok (.iaload, 1) := by decide +kernel
theorem dX0_add_73 : decode cX0_add 73 = .ok (.iconst 1, 1) := by decide +kernel
theorem dX0_add_74 : decode cX0_add 74 = .ok (.iadd, 1) := by decide +kernel
theorem dX0_add_75 : decode cX0_add 75 = .ok (.iastore, 1) := by decide +kernel
theorem dX0_add_76 : decode cX0_add 76 = .ok (.aload_n 0, 1) := by decide +kernel
theorem dX0_add_77 : decode cX0_add 77 = .ok (.getfield 17, 3) := by decide +kernel
theorem dX0_add_80 : decode cX0_add 80 = .ok (.iload 4, 2) := by decide +kernel
theorem dX0_add_82 : decode cX0_add 82 = .ok (.iconst 1, 1) := by decide +kernel
theorem dX0_add_83 : decode cX0_add 83 = .ok (.aload_n 0, 1) := by decide +kernel
theorem dX0_add_84 : decode cX0_add 84 = .ok (.iload 5, 2) := by decide +kernel
theorem dX0_add_86 : decode cX0_add 86 = .ok (.invokevirtual 65, 3) := by decide +kernel
theorem dX0_add_89 : decode cX0_add 89 = .ok (.aload_n 0, 1) := by decide +kernel
theorem dX0_add_90 : decode cX0_add 90 = .ok (.iload_n 3, 1) := by decide +kernel
theorem dX0_add_91 : decode cX0_add 91 = .ok (.invokevirtual 65, 3) := by decide +kernel
theorem dX0_add_94 : decode cX0_add 94 = .ok (.invokestatic 99, 3) := by decide +kernel
theorem dX0_add_97 : decode cX0_add 97 = .ok (.iadd, 1) := by decide +kernel
theorem dX0_add_98 : decode cX0_add 98 = .ok (.iastore, 1) := by decide +kernel
theorem dX0_add_99 : decode cX0_add 99 = .ok (.aload_n 0, 1) := by decide +kernel
theorem dX0_add_100 : decode cX0_add 100 = .ok (.getfield 9, 3) := by decide +kernel
theorem dX0_add_103 : decode cX0_add 103 = .ok (.iload 4, 2) := by decide +kernel
theorem dX0_add_105 : decode cX0_add 105 = .ok (.iload_n 1, 1) := by decide +kernel
theorem dX0_add_106 : decode cX0_add 106 = .ok (.iastore, 1) := by decide +kernel
theorem dX0_add_107 : decode cX0_add 107 = .ok (.aload_n 0, 1) := by decide +kernel
theorem dX0_add_108 : decode cX0_add 108 = .ok (.getfield 13, 3) := by decide +kernel
theorem dX0_add_111 : decode cX0_add 111 = .ok (.iload 4, 2) := by decide +kernel
theorem dX0_add_113 : decode cX0_add 113 = .ok (.iload_n 2, 1) := by decide +kernel
theorem dX0_add_114 : decode cX0_add 114 = .ok (.bastore, 1) := by decide +kernel
theorem dX0_add_115 : decode cX0_add 115 = .ok (.aload_n 0, 1) := by decide +kernel
theorem dX0_add_116 : decode cX0_add 116 = .ok (.dup, 1) := by decide +kernel
theorem dX0_add_117 : decode cX0_add 117 = .ok (.getfield 26, 3) := by decide +kernel
theorem dX0_add_120 : decode cX0_add 120 = .ok (.iconst 1, 1) := by decide +kernel
theorem dX0_add_121 : decode cX0_add 121 = .ok (.iadd, 1) := by decide +kernel
theorem dX0_add_122 : decode cX0_add 122 = .ok (.putfield 26, 3) := by decide +kernel
theorem dX0_add_125 : decode cX0_add 125 = .ok (.iload 4, 2) := by decide +kernel
theorem dX0_add_127 : decode cX0_add 127 = .ok (.ireturn, 1) := by decide +kernel
theorem dX0_latestOf_0 : decode cX0_latestOf 0 = .ok (.aload_n 0, 1) := by decide +kernel
theorem dX0_latestOf_1 : decode cX0_latestOf 1 = .ok (.getfield 26, 3) := by decide +kernel
theorem dX0_latestOf_4 : decode cX0_latestOf 4 = .ok (.iconst 1, 1) := by decide +kernel
theorem dX0_latestOf_5 : decode cX0_latestOf 5 = .ok (.isub, 1) := by decide +kernel
theorem dX0_latestOf_6 : decode cX0_latestOf 6 = .ok (.istore_n 2, 1) := by decide +kernel
theorem dX0_latestOf_7 : decode cX0_latestOf 7 = .ok (.iload_n 2, 1) := by decide +kernel
theorem dX0_latestOf_8 : decode cX0_latestOf 8 = .ok (.ifCond .lt 21, 3) := by decide +kernel
theorem dX0_latestOf_11 : decode cX0_latestOf 11 = .ok (.aload_n 0, 1) := by decide +kernel
theorem dX0_latestOf_12 : decode cX0_latestOf 12 = .ok (.getfield 9, 3) := by decide +kernel
theorem dX0_latestOf_15 : decode cX0_latestOf 15 = .ok (.iload_n 2, 1) := by decide +kernel
theorem dX0_latestOf_16 : decode cX0_latestOf 16 = .ok (.iaload, 1) := by decide +kernel
theorem dX0_latestOf_17 : decode cX0_latestOf 17 = .ok (.iload_n 1, 1) := by decide +kernel
theorem dX0_latestOf_18 : decode cX0_latestOf 18 = .ok (.if_icmp .ne 5, 3) := by decide +kernel
theorem dX0_latestOf_21 : decode cX0_latestOf 21 = .ok (.iload_n 2, 1) := by decide +kernel
theorem dX0_latestOf_22 : decode cX0_latestOf 22 = .ok (.ireturn, 1) := by decide +kernel
theorem dX0_latestOf_23 : decode cX0_latestOf 23 = .ok (.iinc 2 (-1), 3) := by decide +kernel
theorem dX0_latestOf_26 : decode cX0_latestOf 26 = .ok (.goto (-19), 3) := by decide +kernel
theorem dX0_latestOf_29 : decode cX0_latestOf 29 = .ok (.iconst (-1), 1) := by decide +kernel
theorem dX0_latestOf_30 : decode cX0_latestOf 30 = .ok (.ireturn, 1) := by decide +kernel
theorem dX0_rankOf_0 : decode cX0_rankOf 0 = .ok (.iload_n 1, 1) := by decide +kernel
theorem dX0_rankOf_1 : decode cX0_rankOf 1 = .ok (.iconst (-1), 1) := by decide +kernel
theorem dX0_rankOf_2 : decode cX0_rankOf 2 = .ok (.if_icmp .ne 7, 3) := by decide +kernel
theorem dX0_rankOf_5 : decode cX0_rankOf 5 = .ok (.iconst 0, 1) := by decide +kernel
theorem dX0_rankOf_6 : decode cX0_rankOf 6 = .ok (.goto 9, 3) := by decide +kernel
theorem dX0_rankOf_9 : decode cX0_rankOf 9 = .ok (.aload_n 0, 1) := by decide +kernel
theorem dX0_rankOf_10 : decode cX0_rankOf 10 = .ok (.getfield 17, 3) := by decide +kernel
theorem dX0_rankOf_13 : decode cX0_rankOf 13 = .ok (.iload_n 1, 1) := by decide +kernel
theorem dX0_rankOf_14 : decode cX0_rankOf 14 = .ok (.iaload, 1) := by decide +kernel
theorem dX0_rankOf_15 : decode cX0_rankOf 15 = .ok (.ireturn, 1) := by decide +kernel
theorem dX0_send_0 : decode cX0_send 0 = .ok (.iload_n 1, 1) := by decide +kernel
theorem dX0_send_1 : decode cX0_send 1 = .ok (.invokestatic 30, 3) := by decide +kernel
theorem dX0_send_4 : decode cX0_send 4 = .ok (.aload_n 0, 1) := by decide +kernel
theorem dX0_send_5 : decode cX0_send 5 = .ok (.invokevirtual 34, 3) := by decide +kernel
theorem dX0_send_8 : decode cX0_send 8 = .ok (.aload_n 0, 1) := by decide +kernel
theorem dX0_send_9 : decode cX0_send 9 = .ok (.iload_n 1, 1) := by decide +kernel
theorem dX0_send_10 : decode cX0_send 10 = .ok (.iconst 1, 1) := by decide +kernel
theorem dX0_send_11 : decode cX0_send 11 = .ok (.iconst (-1), 1) := by decide +kernel
theorem dX0_send_12 : decode cX0_send 12 = .ok (.invokevirtual 37, 3) := by decide +kernel
theorem dX0_send_15 : decode cX0_send 15 = .ok (.ireturn, 1) := by decide +kernel
theorem dX0_receive_0 : decode cX0_receive 0 = .ok (.iload_n 1, 1) := by decide +kernel
theorem dX0_receive_1 : decode cX0_receive 1 = .ok (.invokestatic 30, 3) := by decide +kernel
theorem dX0_receive_4 : decode cX0_receive 4 = .ok (.aload_n 0, 1) := by decide +kernel
theorem dX0_receive_5 : decode cX0_receive 5 = .ok (.iload_n 2, 1) := by decide +kernel
theorem dX0_receive_6 : decode cX0_receive 6 = .ok (.invokevirtual 41, 3) := by decide +kernel
theorem dX0_receive_9 : decode cX0_receive 9 = .ok (.ifCond .eq 22, 3) := by decide +kernel
theorem dX0_receive_12 : decode cX0_receive 12 = .ok (.aload_n 0, 1) := by decide +kernel
theorem dX0_receive_13 : decode cX0_receive 13 = .ok (.getfield 13, 3) := by decide +kernel
theorem dX0_receive_16 : decode cX0_receive 16 = .ok (.iload_n 2, 1) := by decide +kernel
theorem dX0_receive_17 : decode cX0_receive 17 = .ok (.baload, 1) := by decide +kernel
theorem dX0_receive_18 : decode cX0_receive 18 = .ok (.ifCond .eq 13, 3) := by decide +kernel
theorem dX0_receive_21 : decode cX0_receive 21 = .ok (.aload_n 0, 1) := by decide +kernel
theorem dX0_receive_22 : decode cX0_receive 22 = .ok (.getfield 9, 3) := by decide +kernel
theorem dX0_receive_25 : decode cX0_receive 25 = .ok (.iload_n 2, 1) := by decide +kernel
theorem dX0_receive_26 : decode cX0_receive 26 = .ok (.iaload, 1) := by decide +kernel
theorem dX0_receive_27 : decode cX0_receive 27 = .ok (.iload_n 1, 1) := by decide +kernel
theorem dX0_receive_28 : decode cX0_receive 28 = .ok (.if_icmp .ne 11, 3) := by decide +kernel
theorem dX0_receive_31 : decode cX0_receive 31 = .ok (.new 45, 3) := by decide +kernel
theorem dX0_receive_34 : decode cX0_receive 34 = .ok (.dup, 1) := by decide +kernel
theorem dX0_receive_35 : decode cX0_receive 35 = .ok (.invokespecial 47, 3) := by decide +kernel
theorem dX0_receive_38 : decode cX0_receive 38 = .ok (.athrow, 1) := by decide +kernel
theorem dX0_receive_39 : decode cX0_receive 39 = .ok (.aload_n 0, 1) := by decide +kernel
theorem dX0_receive_40 : decode cX0_receive 40 = .ok (.invokevirtual 34, 3) := by decide +kernel
theorem dX0_receive_43 : decode cX0_receive 43 = .ok (.aload_n 0, 1) := by decide +kernel
theorem dX0_receive_44 : decode cX0_receive 44 = .ok (.iload_n 1, 1) := by decide +kernel
theorem dX0_receive_45 : decode cX0_receive 45 = .ok (.iconst 0, 1) := by decide +kernel
theorem dX0_receive_46 : decode cX0_receive 46 = .ok (.iload_n 2, 1) := by decide +kernel
theorem dX0_receive_47 : decode cX0_receive 47 = .ok (.invokevirtual 37, 3) := by decide +kernel
theorem dX0_receive_50 : decode cX0_receive 50 = .ok (.ireturn, 1) := by decide +kernel
theorem dX0_isEvent_0 : decode cX0_isEvent 0 = .ok (.iload_n 1, 1) := by decide +kernel
theorem dX0_isEvent_1 : decode cX0_isEvent 1 = .ok (.ifCond .lt 15, 3) := by decide +kernel
theorem dX0_isEvent_4 : decode cX0_isEvent 4 = .ok (.iload_n 1, 1) := by decide +kernel
theorem dX0_isEvent_5 : decode cX0_isEvent 5 = .ok (.aload_n 0, 1) := by decide +kernel
theorem dX0_isEvent_6 : decode cX0_isEvent 6 = .ok (.getfield 26, 3) := by decide +kernel
theorem dX0_isEvent_9 : decode cX0_isEvent 9 = .ok (.if_icmp .ge 7, 3) := by decide +kernel
theorem dX0_isEvent_12 : decode cX0_isEvent 12 = .ok (.iconst 1, 1) := by decide +kernel
theorem dX0_isEvent_13 : decode cX0_isEvent 13 = .ok (.goto 4, 3) := by decide +kernel
theorem dX0_isEvent_16 : decode cX0_isEvent 16 = .ok (.iconst 0, 1) := by decide +kernel
theorem dX0_isEvent_17 : decode cX0_isEvent 17 = .ok (.ireturn, 1) := by decide +kernel
theorem dX0_undo_0 : decode cX0_undo 0 = .ok (.iload_n 1, 1) := by decide +kernel
theorem dX0_undo_1 : decode cX0_undo 1 = .ok (.ifCond .lt 11, 3) := by decide +kernel
theorem dX0_undo_4 : decode cX0_undo 4 = .ok (.iload_n 1, 1) := by decide +kernel
theorem dX0_undo_5 : decode cX0_undo 5 = .ok (.aload_n 0, 1) := by decide +kernel
theorem dX0_undo_6 : decode cX0_undo 6 = .ok (.getfield 26, 3) := by decide +kernel
theorem dX0_undo_9 : decode cX0_undo 9 = .ok (.if_icmp .le 11, 3) := by decide +kernel
theorem dX0_undo_12 : decode cX0_undo 12 = .ok (.new 45, 3) := by decide +kernel
theorem dX0_undo_15 : decode cX0_undo 15 = .ok (.dup, 1) := by decide +kernel
theorem dX0_undo_16 : decode cX0_undo 16 = .ok (.invokespecial 47, 3) := by decide +kernel
theorem dX0_undo_19 : decode cX0_undo 19 = .ok (.athrow, 1) := by decide +kernel
theorem dX0_undo_20 : decode cX0_undo 20 = .ok (.aload_n 0, 1) := by decide +kernel
theorem dX0_undo_21 : decode cX0_undo 21 = .ok (.dup, 1) := by decide +kernel
theorem dX0_undo_22 : decode cX0_undo 22 = .ok (.getfield 26, 3) := by decide +kernel
theorem dX0_undo_25 : decode cX0_undo 25 = .ok (.iload_n 1, 1) := by decide +kernel
theorem dX0_undo_26 : decode cX0_undo 26 = .ok (.isub, 1) := by decide +kernel
theorem dX0_undo_27 : decode cX0_undo 27 = .ok (.putfield 26, 3) := by decide +kernel
theorem dX0_undo_30 : decode cX0_undo 30 = .ok (.iconst 0, 1) := by decide +kernel
theorem dX0_undo_31 : decode cX0_undo 31 = .ok (.istore_n 2, 1) := by decide +kernel
theorem dX0_undo_32 : decode cX0_undo 32 = .ok (.iload_n 2, 1) := by decide +kernel
theorem dX0_undo_33 : decode cX0_undo 33 = .ok (.bipush 6, 2) := by decide +kernel
theorem dX0_undo_35 : decode cX0_undo 35 = .ok (.if_icmp .ge 29, 3) := by decide +kernel
theorem dX0_undo_38 : decode cX0_undo 38 = .ok (.aload_n 0, 1) := by decide +kernel
theorem dX0_undo_39 : decode cX0_undo 39 = .ok (.getfield 23, 3) := by decide +kernel
theorem dX0_undo_42 : decode cX0_undo 42 = .ok (.iload_n 2, 1) := by decide +kernel
theorem dX0_undo_43 : decode cX0_undo 43 = .ok (.aload_n 0, 1) := by decide +kernel
theorem dX0_undo_44 : decode cX0_undo 44 = .ok (.getfield 23, 3) := by decide +kernel
theorem dX0_undo_47 : decode cX0_undo 47 = .ok (.iload_n 2, 1) := by decide +kernel
theorem dX0_undo_48 : decode cX0_undo 48 = .ok (.iaload, 1) := by decide +kernel
theorem dX0_undo_49 : decode cX0_undo 49 = .ok (.aload_n 0, 1) := by decide +kernel
theorem dX0_undo_50 : decode cX0_undo 50 = .ok (.iload_n 2, 1) := by decide +kernel
theorem dX0_undo_51 : decode cX0_undo 51 = .ok (.invokevirtual 48, 3) := by decide +kernel
theorem dX0_undo_54 : decode cX0_undo 54 = .ok (.invokestatic 52, 3) := by decide +kernel
theorem dX0_undo_57 : decode cX0_undo 57 = .ok (.iastore, 1) := by decide +kernel
theorem dX0_undo_58 : decode cX0_undo 58 = .ok (.iinc 2 1, 3) := by decide +kernel
theorem dX0_undo_61 : decode cX0_undo 61 = .ok (.goto (-29), 3) := by decide +kernel
theorem dX0_undo_64 : decode cX0_undo 64 = .ok (.return_, 1) := by decide +kernel
theorem dX0_lengthOf_0 : decode cX0_lengthOf 0 = .ok (.aload_n 0, 1) := by decide +kernel
theorem dX0_lengthOf_1 : decode cX0_lengthOf 1 = .ok (.aload_n 0, 1) := by decide +kernel
theorem dX0_lengthOf_2 : decode cX0_lengthOf 2 = .ok (.iload_n 1, 1) := by decide +kernel
theorem dX0_lengthOf_3 : decode cX0_lengthOf 3 = .ok (.invokevirtual 96, 3) := by decide +kernel
theorem dX0_lengthOf_6 : decode cX0_lengthOf 6 = .ok (.iload_n 1, 1) := by decide +kernel
theorem dX0_lengthOf_7 : decode cX0_lengthOf 7 = .ok (.invokevirtual 68, 3) := by decide +kernel
theorem dX0_lengthOf_10 : decode cX0_lengthOf 10 = .ok (.ireturn, 1) := by decide +kernel
theorem dX0_before_0 : decode cX0_before 0 = .ok (.aload_n 0, 1) := by decide +kernel
theorem dX0_before_1 : decode cX0_before 1 = .ok (.iload_n 1, 1) := by decide +kernel
theorem dX0_before_2 : decode cX0_before 2 = .ok (.invokevirtual 58, 3) := by decide +kernel
theorem dX0_before_5 : decode cX0_before 5 = .ok (.aload_n 0, 1) := by decide +kernel
theorem dX0_before_6 : decode cX0_before 6 = .ok (.iload_n 2, 1) := by decide +kernel
theorem dX0_before_7 : decode cX0_before 7 = .ok (.invokevirtual 58, 3) := by decide +kernel
theorem dX0_before_10 : decode cX0_before 10 = .ok (.aload_n 0, 1) := by decide +kernel
theorem dX0_before_11 : decode cX0_before 11 = .ok (.iload_n 1, 1) := by decide +kernel
theorem dX0_before_12 : decode cX0_before 12 = .ok (.iload_n 2, 1) := by decide +kernel
theorem dX0_before_13 : decode cX0_before 13 = .ok (.invokevirtual 61, 3) := by decide +kernel
theorem dX0_before_16 : decode cX0_before 16 = .ok (.ireturn, 1) := by decide +kernel
theorem dX0_needEvent_0 : decode cX0_needEvent 0 = .ok (.aload_n 0, 1) := by decide +kernel
theorem dX0_needEvent_1 : decode cX0_needEvent 1 = .ok (.iload_n 1, 1) := by decide +kernel
theorem dX0_needEvent_2 : decode cX0_needEvent 2 = .ok (.invokevirtual 41, 3) := by decide +kernel
theorem dX0_needEvent_5 : decode cX0_needEvent 5 = .ok (.ifCond .ne 11, 3) := by decide +kernel
theorem dX0_needEvent_8 : decode cX0_needEvent 8 = .ok (.new 93, 3) := by decide +kernel
theorem dX0_needEvent_11 : decode cX0_needEvent 11 = .ok (.dup, 1) := by decide +kernel
theorem dX0_needEvent_12 : decode cX0_needEvent 12 = .ok (.invokespecial 95, 3) := by decide +kernel
theorem dX0_needEvent_15 : decode cX0_needEvent 15 = .ok (.athrow, 1) := by decide +kernel
theorem dX0_needEvent_16 : decode cX0_needEvent 16 = .ok (.return_, 1) := by decide +kernel
theorem dX0_precedes_0 : decode cX0_precedes 0 = .ok (.iload_n 1, 1) := by decide +kernel
theorem dX0_precedes_1 : decode cX0_precedes 1 = .ok (.iload_n 2, 1) := by decide +kernel
theorem dX0_precedes_2 : decode cX0_precedes 2 = .ok (.if_icmp .eq 26, 3) := by decide +kernel
theorem dX0_precedes_5 : decode cX0_precedes 5 = .ok (.aload_n 0, 1) := by decide +kernel
theorem dX0_precedes_6 : decode cX0_precedes 6 = .ok (.iload_n 1, 1) := by decide +kernel
theorem dX0_precedes_7 : decode cX0_precedes 7 = .ok (.invokevirtual 84, 3) := by decide +kernel
theorem dX0_precedes_10 : decode cX0_precedes 10 = .ok (.aload_n 0, 1) := by decide +kernel
theorem dX0_precedes_11 : decode cX0_precedes 11 = .ok (.iload_n 2, 1) := by decide +kernel
theorem dX0_precedes_12 : decode cX0_precedes 12 = .ok (.aload_n 0, 1) := by decide +kernel
theorem dX0_precedes_13 : decode cX0_precedes 13 = .ok (.getfield 9, 3) := by decide +kernel
theorem dX0_precedes_16 : decode cX0_precedes 16 = .ok (.iload_n 1, 1) := by decide +kernel
theorem dX0_precedes_17 : decode cX0_precedes 17 = .ok (.iaload, 1) := by decide +kernel
theorem dX0_precedes_18 : decode cX0_precedes 18 = .ok (.invokevirtual 68, 3) := by decide +kernel
theorem dX0_precedes_21 : decode cX0_precedes 21 = .ok (.if_icmp .gt 7, 3) := by decide +kernel
theorem dX0_precedes_24 : decode cX0_precedes 24 = .ok (.iconst 1, 1) := by decide +kernel
theorem dX0_precedes_25 : decode cX0_precedes 25 = .ok (.goto 4, 3) := by decide +kernel
theorem dX0_precedes_28 : decode cX0_precedes 28 = .ok (.iconst 0, 1) := by decide +kernel
theorem dX0_precedes_29 : decode cX0_precedes 29 = .ok (.ireturn, 1) := by decide +kernel
theorem dX0_apart_0 : decode cX0_apart 0 = .ok (.aload_n 0, 1) := by decide +kernel
theorem dX0_apart_1 : decode cX0_apart 1 = .ok (.iload_n 1, 1) := by decide +kernel
theorem dX0_apart_2 : decode cX0_apart 2 = .ok (.invokevirtual 58, 3) := by decide +kernel
theorem dX0_apart_5 : decode cX0_apart 5 = .ok (.aload_n 0, 1) := by decide +kernel
theorem dX0_apart_6 : decode cX0_apart 6 = .ok (.iload_n 2, 1) := by decide +kernel
theorem dX0_apart_7 : decode cX0_apart 7 = .ok (.invokevirtual 58, 3) := by decide +kernel
theorem dX0_apart_10 : decode cX0_apart 10 = .ok (.iload_n 1, 1) := by decide +kernel
theorem dX0_apart_11 : decode cX0_apart 11 = .ok (.iload_n 2, 1) := by decide +kernel
theorem dX0_apart_12 : decode cX0_apart 12 = .ok (.if_icmp .eq 25, 3) := by decide +kernel
theorem dX0_apart_15 : decode cX0_apart 15 = .ok (.aload_n 0, 1) := by decide +kernel
theorem dX0_apart_16 : decode cX0_apart 16 = .ok (.iload_n 1, 1) := by decide +kernel
theorem dX0_apart_17 : decode cX0_apart 17 = .ok (.iload_n 2, 1) := by decide +kernel
theorem dX0_apart_18 : decode cX0_apart 18 = .ok (.invokevirtual 61, 3) := by decide +kernel
theorem dX0_apart_21 : decode cX0_apart 21 = .ok (.ifCond .ne 16, 3) := by decide +kernel
theorem dX0_apart_24 : decode cX0_apart 24 = .ok (.aload_n 0, 1) := by decide +kernel
theorem dX0_apart_25 : decode cX0_apart 25 = .ok (.iload_n 2, 1) := by decide +kernel
theorem dX0_apart_26 : decode cX0_apart 26 = .ok (.iload_n 1, 1) := by decide +kernel
theorem dX0_apart_27 : decode cX0_apart 27 = .ok (.invokevirtual 61, 3) := by decide +kernel
theorem dX0_apart_30 : decode cX0_apart 30 = .ok (.ifCond .ne 7, 3) := by decide +kernel
theorem dX0_apart_33 : decode cX0_apart 33 = .ok (.iconst 1, 1) := by decide +kernel
theorem dX0_apart_34 : decode cX0_apart 34 = .ok (.goto 4, 3) := by decide +kernel
theorem dX0_apart_37 : decode cX0_apart 37 = .ok (.iconst 0, 1) := by decide +kernel
theorem dX0_apart_38 : decode cX0_apart 38 = .ok (.ireturn, 1) := by decide +kernel
theorem dX0_rank_0 : decode cX0_rank 0 = .ok (.aload_n 0, 1) := by decide +kernel
theorem dX0_rank_1 : decode cX0_rank 1 = .ok (.iload_n 1, 1) := by decide +kernel
theorem dX0_rank_2 : decode cX0_rank 2 = .ok (.invokevirtual 58, 3) := by decide +kernel
theorem dX0_rank_5 : decode cX0_rank 5 = .ok (.aload_n 0, 1) := by decide +kernel
theorem dX0_rank_6 : decode cX0_rank 6 = .ok (.iload_n 1, 1) := by decide +kernel
theorem dX0_rank_7 : decode cX0_rank 7 = .ok (.invokevirtual 65, 3) := by decide +kernel
theorem dX0_rank_10 : decode cX0_rank 10 = .ok (.ireturn, 1) := by decide +kernel
theorem dX0_clock_0 : decode cX0_clock 0 = .ok (.iload_n 2, 1) := by decide +kernel
theorem dX0_clock_1 : decode cX0_clock 1 = .ok (.invokestatic 30, 3) := by decide +kernel
theorem dX0_clock_4 : decode cX0_clock 4 = .ok (.aload_n 0, 1) := by decide +kernel
theorem dX0_clock_5 : decode cX0_clock 5 = .ok (.iload_n 1, 1) := by decide +kernel
theorem dX0_clock_6 : decode cX0_clock 6 = .ok (.invokevirtual 58, 3) := by decide +kernel
theorem dX0_clock_9 : decode cX0_clock 9 = .ok (.aload_n 0, 1) := by decide +kernel
theorem dX0_clock_10 : decode cX0_clock 10 = .ok (.iload_n 1, 1) := by decide +kernel
theorem dX0_clock_11 : decode cX0_clock 11 = .ok (.iload_n 2, 1) := by decide +kernel
theorem dX0_clock_12 : decode cX0_clock 12 = .ok (.invokevirtual 68, 3) := by decide +kernel
theorem dX0_clock_15 : decode cX0_clock 15 = .ok (.ireturn, 1) := by decide +kernel
theorem dX0_cut_0 : decode cX0_cut 0 = .ok (.iload_n 1, 1) := by decide +kernel
theorem dX0_cut_1 : decode cX0_cut 1 = .ok (.invokestatic 30, 3) := by decide +kernel
theorem dX0_cut_4 : decode cX0_cut 4 = .ok (.iload_n 2, 1) := by decide +kernel
theorem dX0_cut_5 : decode cX0_cut 5 = .ok (.ifCond .lt 12, 3) := by decide +kernel
theorem dX0_cut_8 : decode cX0_cut 8 = .ok (.iload_n 2, 1) := by decide +kernel
theorem dX0_cut_9 : decode cX0_cut 9 = .ok (.aload_n 0, 1) := by decide +kernel
theorem dX0_cut_10 : decode cX0_cut 10 = .ok (.iload_n 1, 1) := by decide +kernel
theorem dX0_cut_11 : decode cX0_cut 11 = .ok (.invokevirtual 48, 3) := by decide +kernel
theorem dX0_cut_14 : decode cX0_cut 14 = .ok (.if_icmp .le 11, 3) := by decide +kernel
theorem dX0_cut_17 : decode cX0_cut 17 = .ok (.new 45, 3) := by decide +kernel
theorem dX0_cut_20 : decode cX0_cut 20 = .ok (.dup, 1) := by decide +kernel
theorem dX0_cut_21 : decode cX0_cut 21 = .ok (.invokespecial 47, 3) := by decide +kernel
theorem dX0_cut_24 : decode cX0_cut 24 = .ok (.athrow, 1) := by decide +kernel
theorem dX0_cut_25 : decode cX0_cut 25 = .ok (.aload_n 0, 1) := by decide +kernel
theorem dX0_cut_26 : decode cX0_cut 26 = .ok (.getfield 23, 3) := by decide +kernel
theorem dX0_cut_29 : decode cX0_cut 29 = .ok (.iload_n 1, 1) := by decide +kernel
theorem dX0_cut_30 : decode cX0_cut 30 = .ok (.iload_n 2, 1) := by decide +kernel
theorem dX0_cut_31 : decode cX0_cut 31 = .ok (.iastore, 1) := by decide +kernel
theorem dX0_cut_32 : decode cX0_cut 32 = .ok (.return_, 1) := by decide +kernel
theorem dX0_count_0 : decode cX0_count 0 = .ok (.iload_n 1, 1) := by decide +kernel
theorem dX0_count_1 : decode cX0_count 1 = .ok (.tableswitch 51 0 3 #[31, 36, 41, 46], 31) := by decide +kernel
theorem dX0_count_32 : decode cX0_count 32 = .ok (.aload_n 0, 1) := by decide +kernel
theorem dX0_count_33 : decode cX0_count 33 = .ok (.getfield 26, 3) := by decide +kernel
theorem dX0_count_36 : decode cX0_count 36 = .ok (.ireturn, 1) := by decide +kernel
theorem dX0_count_37 : decode cX0_count 37 = .ok (.aload_n 0, 1) := by decide +kernel
theorem dX0_count_38 : decode cX0_count 38 = .ok (.invokevirtual 87, 3) := by decide +kernel
theorem dX0_count_41 : decode cX0_count 41 = .ok (.ireturn, 1) := by decide +kernel
theorem dX0_count_42 : decode cX0_count 42 = .ok (.aload_n 0, 1) := by decide +kernel
theorem dX0_count_43 : decode cX0_count 43 = .ok (.invokevirtual 90, 3) := by decide +kernel
theorem dX0_count_46 : decode cX0_count 46 = .ok (.ireturn, 1) := by decide +kernel
theorem dX0_count_47 : decode cX0_count 47 = .ok (.aload_n 0, 1) := by decide +kernel
theorem dX0_count_48 : decode cX0_count 48 = .ok (.invokevirtual 80, 3) := by decide +kernel
theorem dX0_count_51 : decode cX0_count 51 = .ok (.ireturn, 1) := by decide +kernel
theorem dX0_count_52 : decode cX0_count 52 = .ok (.new 45, 3) := by decide +kernel
theorem dX0_count_55 : decode cX0_count 55 = .ok (.dup, 1) := by decide +kernel
theorem dX0_count_56 : decode cX0_count 56 = .ok (.invokespecial 47, 3) := by decide +kernel
theorem dX0_count_59 : decode cX0_count 59 = .ok (.athrow, 1) := by decide +kernel
theorem dX0_apartPairs_0 : decode cX0_apartPairs 0 = .ok (.iconst 0, 1) := by decide +kernel
theorem dX0_apartPairs_1 : decode cX0_apartPairs 1 = .ok (.istore_n 1, 1) := by decide +kernel
theorem dX0_apartPairs_2 : decode cX0_apartPairs 2 = .ok (.iconst 0, 1) := by decide +kernel
theorem dX0_apartPairs_3 : decode cX0_apartPairs 3 = .ok (.istore_n 2, 1) := by decide +kernel
theorem dX0_apartPairs_4 : decode cX0_apartPairs 4 = .ok (.iload_n 2, 1) := by decide +kernel
theorem dX0_apartPairs_5 : decode cX0_apartPairs 5 = .ok (.aload_n 0, 1) := by decide +kernel
theorem dX0_apartPairs_6 : decode cX0_apartPairs 6 = .ok (.getfield 26, 3) := by decide +kernel
theorem dX0_apartPairs_9 : decode cX0_apartPairs 9 = .ok (.if_icmp .ge 19, 3) := by decide +kernel
theorem dX0_apartPairs_12 : decode cX0_apartPairs 12 = .ok (.iload_n 1, 1) := by decide +kernel
theorem dX0_apartPairs_13 : decode cX0_apartPairs 13 = .ok (.iload_n 2, 1) := by decide +kernel
theorem dX0_apartPairs_14 : decode cX0_apartPairs 14 = .ok (.aload_n 0, 1) := by decide +kernel
theorem dX0_apartPairs_15 : decode cX0_apartPairs 15 = .ok (.iload_n 2, 1) := by decide +kernel
theorem dX0_apartPairs_16 : decode cX0_apartPairs 16 = .ok (.invokevirtual 102, 3) := by decide +kernel
theorem dX0_apartPairs_19 : decode cX0_apartPairs 19 = .ok (.isub, 1) := by decide +kernel
theorem dX0_apartPairs_20 : decode cX0_apartPairs 20 = .ok (.iadd, 1) := by decide +kernel
theorem dX0_apartPairs_21 : decode cX0_apartPairs 21 = .ok (.istore_n 1, 1) := by decide +kernel
theorem dX0_apartPairs_22 : decode cX0_apartPairs 22 = .ok (.iinc 2 1, 3) := by decide +kernel
theorem dX0_apartPairs_25 : decode cX0_apartPairs 25 = .ok (.goto (-21), 3) := by decide +kernel
theorem dX0_apartPairs_28 : decode cX0_apartPairs 28 = .ok (.iload_n 1, 1) := by decide +kernel
theorem dX0_apartPairs_29 : decode cX0_apartPairs 29 = .ok (.ireturn, 1) := by decide +kernel
theorem dX0_countBefore_0 : decode cX0_countBefore 0 = .ok (.iconst 0, 1) := by decide +kernel
theorem dX0_countBefore_1 : decode cX0_countBefore 1 = .ok (.istore_n 2, 1) := by decide +kernel
theorem dX0_countBefore_2 : decode cX0_countBefore 2 = .ok (.iconst 0, 1) := by decide +kernel
theorem dX0_countBefore_3 : decode cX0_countBefore 3 = .ok (.istore_n 3, 1) := by decide +kernel
theorem dX0_countBefore_4 : decode cX0_countBefore 4 = .ok (.iload_n 3, 1) := by decide +kernel
theorem dX0_countBefore_5 : decode cX0_countBefore 5 = .ok (.bipush 6, 2) := by decide +kernel
theorem dX0_countBefore_7 : decode cX0_countBefore 7 = .ok (.if_icmp .ge 18, 3) := by decide +kernel
theorem dX0_countBefore_10 : decode cX0_countBefore 10 = .ok (.iload_n 2, 1) := by decide +kernel
theorem dX0_countBefore_11 : decode cX0_countBefore 11 = .ok (.aload_n 0, 1) := by decide +kernel
theorem dX0_countBefore_12 : decode cX0_countBefore 12 = .ok (.iload_n 1, 1) := by decide +kernel
theorem dX0_countBefore_13 : decode cX0_countBefore 13 = .ok (.iload_n 3, 1) := by decide +kernel
theorem dX0_countBefore_14 : decode cX0_countBefore 14 = .ok (.invokevirtual 68, 3) := by decide +kernel
theorem dX0_countBefore_17 : decode cX0_countBefore 17 = .ok (.iadd, 1) := by decide +kernel
theorem dX0_countBefore_18 : decode cX0_countBefore 18 = .ok (.istore_n 2, 1) := by decide +kernel
theorem dX0_countBefore_19 : decode cX0_countBefore 19 = .ok (.iinc 3 1, 3) := by decide +kernel
theorem dX0_countBefore_22 : decode cX0_countBefore 22 = .ok (.goto (-18), 3) := by decide +kernel
theorem dX0_countBefore_25 : decode cX0_countBefore 25 = .ok (.iload_n 2, 1) := by decide +kernel
theorem dX0_countBefore_26 : decode cX0_countBefore 26 = .ok (.iconst 1, 1) := by decide +kernel
theorem dX0_countBefore_27 : decode cX0_countBefore 27 = .ok (.isub, 1) := by decide +kernel
theorem dX0_countBefore_28 : decode cX0_countBefore 28 = .ok (.ireturn, 1) := by decide +kernel
theorem dX0_greatestRank_0 : decode cX0_greatestRank 0 = .ok (.iconst 0, 1) := by decide +kernel
theorem dX0_greatestRank_1 : decode cX0_greatestRank 1 = .ok (.istore_n 1, 1) := by decide +kernel
theorem dX0_greatestRank_2 : decode cX0_greatestRank 2 = .ok (.iconst 0, 1) := by decide +kernel
theorem dX0_greatestRank_3 : decode cX0_greatestRank 3 = .ok (.istore_n 2, 1) := by decide +kernel
theorem dX0_greatestRank_4 : decode cX0_greatestRank 4 = .ok (.iload_n 2, 1) := by decide +kernel
theorem dX0_greatestRank_5 : decode cX0_greatestRank 5 = .ok (.aload_n 0, 1) := by decide +kernel
theorem dX0_greatestRank_6 : decode cX0_greatestRank 6 = .ok (.getfield 26, 3) := by decide +kernel
theorem dX0_greatestRank_9 : decode cX0_greatestRank 9 = .ok (.if_icmp .ge 19, 3) := by decide +kernel
theorem dX0_greatestRank_12 : decode cX0_greatestRank 12 = .ok (.iload_n 1, 1) := by decide +kernel
theorem dX0_greatestRank_13 : decode cX0_greatestRank 13 = .ok (.aload_n 0, 1) := by decide +kernel
theorem dX0_greatestRank_14 : decode cX0_greatestRank 14 = .ok (.iload_n 2, 1) := by decide +kernel
theorem dX0_greatestRank_15 : decode cX0_greatestRank 15 = .ok (.invokevirtual 65, 3) := by decide +kernel
theorem dX0_greatestRank_18 : decode cX0_greatestRank 18 = .ok (.invokestatic 99, 3) := by decide +kernel
theorem dX0_greatestRank_21 : decode cX0_greatestRank 21 = .ok (.istore_n 1, 1) := by decide +kernel
theorem dX0_greatestRank_22 : decode cX0_greatestRank 22 = .ok (.iinc 2 1, 3) := by decide +kernel
theorem dX0_greatestRank_25 : decode cX0_greatestRank 25 = .ok (.goto (-21), 3) := by decide +kernel
theorem dX0_greatestRank_28 : decode cX0_greatestRank 28 = .ok (.iload_n 1, 1) := by decide +kernel
theorem dX0_greatestRank_29 : decode cX0_greatestRank 29 = .ok (.ireturn, 1) := by decide +kernel
