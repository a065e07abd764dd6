theorem dX1_init_0 : decode cX1_init 0 = .ok (.aload_n 0, 1) := by decide +kernel
theorem dX1_init_1 : decode cX1_init 1 = .ok (.invokespecial 1, 3) := by decide +kernel
theorem dX1_init_4 : decode cX1_init 4 = .ok (.aload_n 0, 1) := by decide +kernel
theorem dX1_init_5 : decode cX1_init 5 = .ok (.sipush 200, 3) := by decide +kernel
theorem dX1_init_8 : decode cX1_init 8 = .ok (.newarray .int, 2) := by decide +kernel
theorem dX1_init_10 : decode cX1_init 10 = .ok (.putfield 9, 3) := by decide +kernel
theorem dX1_init_13 : decode cX1_init 13 = .ok (.aload_n 0, 1) := by decide +kernel
theorem dX1_init_14 : decode cX1_init 14 = .ok (.sipush 200, 3) := by decide +kernel
theorem dX1_init_17 : decode cX1_init 17 = .ok (.newarray .int, 2) := by decide +kernel
theorem dX1_init_19 : decode cX1_init 19 = .ok (.putfield 13, 3) := by decide +kernel
theorem dX1_init_22 : decode cX1_init 22 = .ok (.aload_n 0, 1) := by decide +kernel
theorem dX1_init_23 : decode cX1_init 23 = .ok (.sipush 200, 3) := by decide +kernel
theorem dX1_init_26 : decode cX1_init 26 = .ok (.newarray .int, 2) := by decide +kernel
theorem dX1_init_28 : decode cX1_init 28 = .ok (.putfield 16, 3) := by decide +kernel
theorem dX1_init_31 : decode cX1_init 31 = .ok (.aload_n 0, 1) := by decide +kernel
theorem dX1_init_32 : decode cX1_init 32 = .ok (.sipush 200, 3) := by decide +kernel
theorem dX1_init_35 : decode cX1_init 35 = .ok (.newarray .int, 2) := by decide +kernel
theorem dX1_init_37 : decode cX1_init 37 = .ok (.putfield 19, 3) := by decide +kernel
theorem dX1_init_40 : decode cX1_init 40 = .ok (.aload_n 0, 1) := by decide +kernel
theorem dX1_init_41 : decode cX1_init 41 = .ok (.bipush 6, 2) := by decide +kernel
theorem dX1_init_43 : decode cX1_init 43 = .ok (.newarray .int, 2) := by decide +kernel
theorem dX1_init_45 : decode cX1_init 45 = .ok (.putfield 22, 3) := by decide +kernel
theorem dX1_init_48 : decode cX1_init 48 = .ok (.aload_n 0, 1) := by decide +kernel
theorem dX1_init_49 : decode cX1_init 49 = .ok (.sipush 200, 3) := by decide +kernel
theorem dX1_init_52 : decode cX1_init 52 = .ok (.newarray .boolean, 2) := by decide +kernel
theorem dX1_init_54 : decode cX1_init 54 = .ok (.putfield 25, 3) := by decide +kernel
theorem dX1_init_57 : decode cX1_init 57 = .ok (.aload_n 0, 1) := by decide +kernel
theorem dX1_init_58 : decode cX1_init 58 = .ok (.sipush 200, 3) := by decide +kernel
theorem dX1_init_61 : decode cX1_init 61 = .ok (.newarray .boolean, 2) := by decide +kernel
theorem dX1_init_63 : decode cX1_init 63 = .ok (.putfield 29, 3) := by decide +kernel
theorem dX1_init_66 : decode cX1_init 66 = .ok (.return_, 1) := by decide +kernel
theorem dX1_thrown_0 : decode cX1_thrown 0 = .ok (.aload_n 0, 1) := by decide +kernel
theorem dX1_thrown_1 : decode cX1_thrown 1 = .ok (.getfield 32, 3) := by decide +kernel
theorem dX1_thrown_4 : decode cX1_thrown 4 = .ok (.ireturn, 1) := by decide +kernel
theorem dX1_own_0 : decode cX1_own 0 = .ok (.aload_n 0, 1) := by decide +kernel
theorem dX1_own_1 : decode cX1_own 1 = .ok (.iconst 0, 1) := by decide +kernel
theorem dX1_own_2 : decode cX1_own 2 = .ok (.putfield 32, 3) := by decide +kernel
theorem dX1_own_5 : decode cX1_own 5 = .ok (.aload_n 0, 1) := by decide +kernel
theorem dX1_own_6 : decode cX1_own 6 = .ok (.iload_n 1, 1) := by decide +kernel
theorem dX1_own_7 : decode cX1_own 7 = .ok (.invokestatic 45, 3) := by decide +kernel
theorem dX1_own_10 : decode cX1_own 10 = .ok (.ifCond .ne 7, 3) := by decide +kernel
theorem dX1_own_13 : decode cX1_own 13 = .ok (.iconst 1, 1) := by decide +kernel
theorem dX1_own_14 : decode cX1_own 14 = .ok (.goto 4, 3) := by decide +kernel
theorem dX1_own_17 : decode cX1_own 17 = .ok (.iconst 0, 1) := by decide +kernel
theorem dX1_own_18 : decode cX1_own 18 = .ok (.iconst 1, 1) := by decide +kernel
theorem dX1_own_19 : decode cX1_own 19 = .ok (.invokevirtual 49, 3) := by decide +kernel
theorem dX1_own_22 : decode cX1_own 22 = .ok (.ifCond .ne 26, 3) := by decide +kernel
theorem dX1_own_25 : decode cX1_own 25 = .ok (.aload_n 0, 1) := by decide +kernel
theorem dX1_own_26 : decode cX1_own 26 = .ok (.aload_n 0, 1) := by decide +kernel
theorem dX1_own_27 : decode cX1_own 27 = .ok (.getfield 42, 3) := by decide +kernel
theorem dX1_own_30 : decode cX1_own 30 = .ok (.sipush 200, 3) := by decide +kernel
theorem dX1_own_33 : decode cX1_own 33 = .ok (.if_icmp .ne 7, 3) := by decide +kernel
theorem dX1_own_36 : decode cX1_own 36 = .ok (.iconst 1, 1) := by decide +kernel
theorem dX1_own_37 : decode cX1_own 37 = .ok (.goto 4, 3) := by decide +kernel
theorem dX1_own_40 : decode cX1_own 40 = .ok (.iconst 0, 1) := by decide +kernel
theorem dX1_own_41 : decode cX1_own 41 = .ok (.iconst 2, 1) := by decide +kernel
theorem dX1_own_42 : decode cX1_own 42 = .ok (.invokevirtual 49, 3) := by decide +kernel
theorem dX1_own_45 : decode cX1_own 45 = .ok (.ifCond .eq 5, 3) := by decide +kernel
theorem dX1_own_48 : decode cX1_own 48 = .ok (.iconst 0, 1) := by decide +kernel
theorem dX1_own_49 : decode cX1_own 49 = .ok (.ireturn, 1) := by decide +kernel
theorem dX1_own_50 : decode cX1_own 50 = .ok (.aload_n 0, 1) := by decide +kernel
theorem dX1_own_51 : decode cX1_own 51 = .ok (.iload_n 1, 1) := by decide +kernel
theorem dX1_own_52 : decode cX1_own 52 = .ok (.iconst (-1), 1) := by decide +kernel
theorem dX1_own_53 : decode cX1_own 53 = .ok (.iconst 0, 1) := by decide +kernel
theorem dX1_own_54 : decode cX1_own 54 = .ok (.invokevirtual 53, 3) := by decide +kernel
theorem dX1_own_57 : decode cX1_own 57 = .ok (.ireturn, 1) := by decide +kernel
theorem dX1_isProcess_0 : decode cX1_isProcess 0 = .ok (.iload_n 0, 1) := by decide +kernel
theorem dX1_isProcess_1 : decode cX1_isProcess 1 = .ok (.i2l, 1) := by decide +kernel
theorem dX1_isProcess_2 : decode cX1_isProcess 2 = .ok (.lconst 0, 1) := by decide +kernel
theorem dX1_isProcess_3 : decode cX1_isProcess 3 = .ok (.ldc2_w 36, 3) := by decide +kernel
theorem dX1_isProcess_6 : decode cX1_isProcess 6 = .ok (.invokestatic 38, 3) := by decide +kernel
theorem dX1_isProcess_9 : decode cX1_isProcess 9 = .ok (.ireturn, 1) := by decide +kernel
theorem dX1_in_0 : decode cX1_in 0 = .ok (.lload_n 0, 1) := by decide +kernel
theorem dX1_in_1 : decode cX1_in 1 = .ok (.lload_n 2, 1) := by decide +kernel
theorem dX1_in_2 : decode cX1_in 2 = .ok (.lcmp, 1) := by decide +kernel
theorem dX1_in_3 : decode cX1_in 3 = .ok (.ifCond .lt 14, 3) := by decide +kernel
theorem dX1_in_6 : decode cX1_in 6 = .ok (.lload_n 0, 1) := by decide +kernel
theorem dX1_in_7 : decode cX1_in 7 = .ok (.lload 4, 2) := by decide +kernel
theorem dX1_in_9 : decode cX1_in 9 = .ok (.lcmp, 1) := by decide +kernel
theorem dX1_in_10 : decode cX1_in 10 = .ok (.ifCond .gt 7, 3) := by decide +kernel
theorem dX1_in_13 : decode cX1_in 13 = .ok (.iconst 1, 1) := by decide +kernel
theorem dX1_in_14 : decode cX1_in 14 = .ok (.goto 4, 3) := by decide +kernel
theorem dX1_in_17 : decode cX1_in 17 = .ok (.iconst 0, 1) := by decide +kernel
theorem dX1_in_18 : decode cX1_in 18 = .ok (.ireturn, 1) := by decide +kernel
theorem dX1_fails_0 : decode cX1_fails 0 = .ok (.iload_n 1, 1) := by decide +kernel
theorem dX1_fails_1 : decode cX1_fails 1 = .ok (.ifCond .eq 15, 3) := by decide +kernel
theorem dX1_fails_4 : decode cX1_fails 4 = .ok (.aload_n 0, 1) := by decide +kernel
theorem dX1_fails_5 : decode cX1_fails 5 = .ok (.getfield 32, 3) := by decide +kernel
theorem dX1_fails_8 : decode cX1_fails 8 = .ok (.ifCond .ne 8, 3) := by decide +kernel
theorem dX1_fails_11 : decode cX1_fails 11 = .ok (.aload_n 0, 1) := by decide +kernel
theorem dX1_fails_12 : decode cX1_fails 12 = .ok (.iload_n 2, 1) := by decide +kernel
theorem dX1_fails_13 : decode cX1_fails 13 = .ok (.putfield 32, 3) := by decide +kernel
theorem dX1_fails_16 : decode cX1_fails 16 = .ok (.aload_n 0, 1) := by decide +kernel
theorem dX1_fails_17 : decode cX1_fails 17 = .ok (.getfield 32, 3) := by decide +kernel
theorem dX1_fails_20 : decode cX1_fails 20 = .ok (.ifCond .eq 7, 3) := by decide +kernel
theorem dX1_fails_23 : decode cX1_fails 23 = .ok (.iconst 1, 1) := by decide +kernel
theorem dX1_fails_24 : decode cX1_fails 24 = .ok (.goto 4, 3) := by decide +kernel
theorem dX1_fails_27 : decode cX1_fails 27 = .ok (.iconst 0, 1) := by decide +kernel
theorem dX1_fails_28 : decode cX1_fails 28 = .ok (.ireturn, 1) := by decide +kernel
theorem dX1_made_0 : decode cX1_made 0 = .ok (.aload_n 0, 1) := by decide +kernel
theorem dX1_made_1 : decode cX1_made 1 = .ok (.getfield 9, 3) := by decide +kernel
theorem dX1_made_4 : decode cX1_made 4 = .ok (.aload_n 0, 1) := by decide +kernel
theorem dX1_made_5 : decode cX1_made 5 = .ok (.getfield 42, 3) := by decide +kernel
theorem dX1_made_8 : decode cX1_made 8 = .ok (.iload_n 1, 1) := by decide +kernel
theorem dX1_made_9 : decode cX1_made 9 = .ok (.iastore, 1) := by decide +kernel
theorem dX1_made_10 : decode cX1_made 10 = .ok (.aload_n 0, 1) := by decide +kernel
theorem dX1_made_11 : decode cX1_made 11 = .ok (.getfield 13, 3) := by decide +kernel
theorem dX1_made_14 : decode cX1_made 14 = .ok (.aload_n 0, 1) := by decide +kernel
theorem dX1_made_15 : decode cX1_made 15 = .ok (.getfield 42, 3) := by decide +kernel
theorem dX1_made_18 : decode cX1_made 18 = .ok (.iload_n 2, 1) := by decide +kernel
theorem dX1_made_19 : decode cX1_made 19 = .ok (.iastore, 1) := by decide +kernel
theorem dX1_made_20 : decode cX1_made 20 = .ok (.aload_n 0, 1) := by decide +kernel
theorem dX1_made_21 : decode cX1_made 21 = .ok (.getfield 25, 3) := by decide +kernel
theorem dX1_made_24 : decode cX1_made 24 = .ok (.aload_n 0, 1) := by decide +kernel
theorem dX1_made_25 : decode cX1_made 25 = .ok (.getfield 42, 3) := by decide +kernel
theorem dX1_made_28 : decode cX1_made 28 = .ok (.iload_n 3, 1) := by decide +kernel
theorem dX1_made_29 : decode cX1_made 29 = .ok (.bastore, 1) := by decide +kernel
theorem dX1_made_30 : decode cX1_made 30 = .ok (.aload_n 0, 1) := by decide +kernel
theorem dX1_made_31 : decode cX1_made 31 = .ok (.dup, 1) := by decide +kernel
theorem dX1_made_32 : decode cX1_made 32 = .ok (.getfield 42, 3) := by decide +kernel
theorem dX1_made_35 : decode cX1_made 35 = .ok (.dup_x1, 1) := by decide +kernel
theorem dX1_made_36 : decode cX1_made 36 = .ok (.iconst 1, 1) := by decide +kernel
theorem dX1_made_37 : decode cX1_made 37 = .ok (.iadd, 1) := by decide +kernel
theorem dX1_made_38 : decode cX1_made 38 = .ok (.putfield 42, 3) := by decide +kernel
theorem dX1_made_41 : decode cX1_made 41 = .ok (.ireturn, 1) := by decide +kernel
theorem dX1_send_0 : decode cX1_send 0 = .ok (.aload_n 0, 1) := by decide +kernel
theorem dX1_send_1 : decode cX1_send 1 = .ok (.iconst 0, 1) := by decide +kernel
theorem dX1_send_2 : decode cX1_send 2 = .ok (.putfield 32, 3) := by decide +kernel
theorem dX1_send_5 : decode cX1_send 5 = .ok (.aload_n 0, 1) := by decide +kernel
theorem dX1_send_6 : decode cX1_send 6 = .ok (.iload_n 1, 1) := by decide +kernel
theorem dX1_send_7 : decode cX1_send 7 = .ok (.invokestatic 45, 3) := by decide +kernel
theorem dX1_send_10 : decode cX1_send 10 = .ok (.ifCond .ne 7, 3) := by decide +kernel
theorem dX1_send_13 : decode cX1_send 13 = .ok (.iconst 1, 1) := by decide +kernel
theorem dX1_send_14 : decode cX1_send 14 = .ok (.goto 4, 3) := by decide +kernel
theorem dX1_send_17 : decode cX1_send 17 = .ok (.iconst 0, 1) := by decide +kernel
theorem dX1_send_18 : decode cX1_send 18 = .ok (.iconst 1, 1) := by decide +kernel
theorem dX1_send_19 : decode cX1_send 19 = .ok (.invokevirtual 49, 3) := by decide +kernel
theorem dX1_send_22 : decode cX1_send 22 = .ok (.ifCond .ne 26, 3) := by decide +kernel
theorem dX1_send_25 : decode cX1_send 25 = .ok (.aload_n 0, 1) := by decide +kernel
theorem dX1_send_26 : decode cX1_send 26 = .ok (.aload_n 0, 1) := by decide +kernel
theorem dX1_send_27 : decode cX1_send 27 = .ok (.getfield 42, 3) := by decide +kernel
theorem dX1_send_30 : decode cX1_send 30 = .ok (.sipush 200, 3) := by decide +kernel
theorem dX1_send_33 : decode cX1_send 33 = .ok (.if_icmp .ne 7, 3) := by decide +kernel
theorem dX1_send_36 : decode cX1_send 36 = .ok (.iconst 1, 1) := by decide +kernel
theorem dX1_send_37 : decode cX1_send 37 = .ok (.goto 4, 3) := by decide +kernel
theorem dX1_send_40 : decode cX1_send 40 = .ok (.iconst 0, 1) := by decide +kernel
theorem dX1_send_41 : decode cX1_send 41 = .ok (.iconst 2, 1) := by decide +kernel
theorem dX1_send_42 : decode cX1_send 42 = .ok (.invokevirtual 49, 3) := by decide +kernel
theorem dX1_send_45 : decode cX1_send 45 = .ok (.ifCond .eq 5, 3) := by decide +kernel
theorem dX1_send_48 : decode cX1_send 48 = .ok (.iconst 0, 1) := by decide +kernel
theorem dX1_send_49 : decode cX1_send 49 = .ok (.ireturn, 1) := by decide +kernel
theorem dX1_send_50 : decode cX1_send 50 = .ok (.aload_n 0, 1) := by decide +kernel
theorem dX1_send_51 : decode cX1_send 51 = .ok (.iload_n 1, 1) := by decide +kernel
theorem dX1_send_52 : decode cX1_send 52 = .ok (.iconst (-1), 1) := by decide +kernel
theorem dX1_send_53 : decode cX1_send 53 = .ok (.iconst 1, 1) := by decide +kernel
theorem dX1_send_54 : decode cX1_send 54 = .ok (.invokevirtual 53, 3) := by decide +kernel
theorem dX1_send_57 : decode cX1_send 57 = .ok (.ireturn, 1) := by decide +kernel
theorem dX1_receive_0 : decode cX1_receive 0 = .ok (.aload_n 0, 1) := by decide +kernel
theorem dX1_receive_1 : decode cX1_receive 1 = .ok (.iconst 0, 1) := by decide +kernel
theorem dX1_receive_2 : decode cX1_receive 2 = .ok (.putfield 32, 3) := by decide +kernel
theorem dX1_receive_5 : decode cX1_receive 5 = .ok (.aload_n 0, 1) := by decide +kernel
theorem dX1_receive_6 : decode cX1_receive 6 = .ok (.iload_n 1, 1) := by decide +kernel
theorem dX1_receive_7 : decode cX1_receive 7 = .ok (.invokestatic 45, 3) := by decide +kernel
theorem dX1_receive_10 : decode cX1_receive 10 = .ok (.ifCond .eq 30, 3) := by decide +kernel
theorem dX1_receive_13 : decode cX1_receive 13 = .ok (.aload_n 0, 1) := by decide +kernel
theorem dX1_receive_14 : decode cX1_receive 14 = .ok (.iload_n 2, 1) := by decide +kernel
theorem dX1_receive_15 : decode cX1_receive 15 = .ok (.invokevirtual 57, 3) := by decide +kernel
theorem dX1_receive_18 : decode cX1_receive 18 = .ok (.ifCond .eq 22, 3) := by decide +kernel
theorem dX1_receive_21 : decode cX1_receive 21 = .ok (.aload_n 0, 1) := by decide +kernel
theorem dX1_receive_22 : decode cX1_receive 22 = .ok (.getfield 25, 3) := by decide +kernel
theorem dX1_receive_25 : decode cX1_receive 25 = .ok (.iload_n 2, 1) := by decide +kernel
theorem dX1_receive_26 : decode cX1_receive 26 = .ok (.baload, 1) := by decide +kernel
theorem dX1_receive_27 : decode cX1_receive 27 = .ok (.ifCond .eq 13, 3) := by decide +kernel
theorem dX1_receive_30 : decode cX1_receive 30 = .ok (.aload_n 0, 1) := by decide +kernel
theorem dX1_receive_31 : decode cX1_receive 31 = .ok (.getfield 9, 3) := by decide +kernel
theorem dX1_receive_34 : decode cX1_receive 34 = .ok (.iload_n 2, 1) := by decide +kernel
theorem dX1_receive_35 : decode cX1_receive 35 = .ok (.iaload, 1) := by decide +kernel
theorem dX1_receive_36 : decode cX1_receive 36 = .ok (.iload_n 1, 1) := by decide +kernel
theorem dX1_receive_37 : decode cX1_receive 37 = .ok (.if_icmp .ne 7, 3) := by decide +kernel
theorem dX1_receive_40 : decode cX1_receive 40 = .ok (.iconst 1, 1) := by decide +kernel
theorem dX1_receive_41 : decode cX1_receive 41 = .ok (.goto 4, 3) := by decide +kernel
theorem dX1_receive_44 : decode cX1_receive 44 = .ok (.iconst 0, 1) := by decide +kernel
theorem dX1_receive_45 : decode cX1_receive 45 = .ok (.iconst 1, 1) := by decide +kernel
theorem dX1_receive_46 : decode cX1_receive 46 = .ok (.invokevirtual 49, 3) := by decide +kernel
theorem dX1_receive_49 : decode cX1_receive 49 = .ok (.ifCond .ne 26, 3) := by decide +kernel
theorem dX1_receive_52 : decode cX1_receive 52 = .ok (.aload_n 0, 1) := by decide +kernel
theorem dX1_receive_53 : decode cX1_receive 53 = .ok (.aload_n 0, 1) := by decide +kernel
theorem dX1_receive_54 : decode cX1_receive 54 = .ok (.getfield 42, 3) := by decide +kernel
theorem dX1_receive_57 : decode cX1_receive 57 = .ok (.sipush 200, 3) := by decide +kernel
theorem dX1_receive_60 : decode cX1_receive 60 = .ok (.if_icmp .ne 7, 3) := by decide +kernel
theorem dX1_receive_63 : decode cX1_receive 63 = .ok (.iconst 1, 1) := by decide +kernel
theorem dX1_receive_64 : decode cX1_receive 64 = .ok (.goto 4, 3) := by decide +kernel
theorem dX1_receive_67 : decode cX1_receive 67 = .ok (.iconst 0, 1) := by decide +kernel
theorem dX1_receive_68 : decode cX1_receive 68 = .ok (.iconst 2, 1) := by decide +kernel
theorem dX1_receive_69 : decode cX1_receive 69 = .ok (.invokevirtual 49, 3) := by decide +kernel
theorem dX1_receive_72 : decode cX1_receive 72 = .ok (.ifCond .eq 5, 3) := by decide +kernel
theorem dX1_receive_75 : decode cX1_receive 75 = .ok (.iconst 0, 1) := by decide +kernel
theorem dX1_receive_76 : decode cX1_receive 76 = .ok (.ireturn, 1) := by decide +kernel
theorem dX1_receive_77 : decode cX1_receive 77 = .ok (.aload_n 0, 1) := by decide +kernel
theorem dX1_receive_78 : decode cX1_receive 78 = .ok (.iload_n 1, 1) := by decide +kernel
theorem dX1_receive_79 : decode cX1_receive 79 = .ok (.iload_n 2, 1) := by decide +kernel
theorem dX1_receive_80 : decode cX1_receive 80 = .ok (.iconst 0, 1) := by decide +kernel
theorem dX1_receive_81 : decode cX1_receive 81 = .ok (.invokevirtual 53, 3) := by decide +kernel
theorem dX1_receive_84 : decode cX1_receive 84 = .ok (.ireturn, 1) := by decide +kernel
theorem dX1_isEvent_0 : decode cX1_isEvent 0 = .ok (.iload_n 1, 1) := by decide +kernel
theorem dX1_isEvent_1 : decode cX1_isEvent 1 = .ok (.i2l, 1) := by decide +kernel
theorem dX1_isEvent_2 : decode cX1_isEvent 2 = .ok (.lconst 0, 1) := by decide +kernel
theorem dX1_isEvent_3 : decode cX1_isEvent 3 = .ok (.aload_n 0, 1) := by decide +kernel
theorem dX1_isEvent_4 : decode cX1_isEvent 4 = .ok (.getfield 42, 3) := by decide +kernel
theorem dX1_isEvent_7 : decode cX1_isEvent 7 = .ok (.iconst 1, 1) := by decide +kernel
theorem dX1_isEvent_8 : decode cX1_isEvent 8 = .ok (.isub, 1) := by decide +kernel
theorem dX1_isEvent_9 : decode cX1_isEvent 9 = .ok (.i2l, 1) := by decide +kernel
theorem dX1_isEvent_10 : decode cX1_isEvent 10 = .ok (.invokestatic 38, 3) := by decide +kernel
theorem dX1_isEvent_13 : decode cX1_isEvent 13 = .ok (.ireturn, 1) := by decide +kernel
theorem dX1_undo_0 : decode cX1_undo 0 = .ok (.aload_n 0, 1) := by decide +kernel
theorem dX1_undo_1 : decode cX1_undo 1 = .ok (.iconst 0, 1) := by decide +kernel
theorem dX1_undo_2 : decode cX1_undo 2 = .ok (.putfield 32, 3) := by decide +kernel
theorem dX1_undo_5 : decode cX1_undo 5 = .ok (.aload_n 0, 1) := by decide +kernel
theorem dX1_undo_6 : decode cX1_undo 6 = .ok (.iload_n 1, 1) := by decide +kernel
theorem dX1_undo_7 : decode cX1_undo 7 = .ok (.i2l, 1) := by decide +kernel
theorem dX1_undo_8 : decode cX1_undo 8 = .ok (.lconst 0, 1) := by decide +kernel
theorem dX1_undo_9 : decode cX1_undo 9 = .ok (.aload_n 0, 1) := by decide +kernel
theorem dX1_undo_10 : decode cX1_undo 10 = .ok (.getfield 42, 3) := by decide +kernel
theorem dX1_undo_13 : decode cX1_undo 13 = .ok (.i2l, 1) := by decide +kernel
theorem dX1_undo_14 : decode cX1_undo 14 = .ok (.invokestatic 38, 3) := by decide +kernel
theorem dX1_undo_17 : decode cX1_undo 17 = .ok (.ifCond .ne 7, 3) := by decide +kernel
theorem dX1_undo_20 : decode cX1_undo 20 = .ok (.iconst 1, 1) := by decide +kernel
theorem dX1_undo_21 : decode cX1_undo 21 = .ok (.goto 4, 3) := by decide +kernel
theorem dX1_undo_24 : decode cX1_undo 24 = .ok (.iconst 0, 1) := by decide +kernel
theorem dX1_undo_25 : decode cX1_undo 25 = .ok (.iconst 1, 1) := by decide +kernel
theorem dX1_undo_26 : decode cX1_undo 26 = .ok (.invokevirtual 49, 3) := by decide +kernel
theorem dX1_undo_29 : decode cX1_undo 29 = .ok (.ifCond .eq 4, 3) := by decide +kernel
theorem dX1_undo_32 : decode cX1_undo 32 = .ok (.return_, 1) := by decide +kernel
theorem dX1_undo_33 : decode cX1_undo 33 = .ok (.aload_n 0, 1) := by decide +kernel
theorem dX1_undo_34 : decode cX1_undo 34 = .ok (.dup, 1) := by decide +kernel
theorem dX1_undo_35 : decode cX1_undo 35 = .ok (.getfield 42, 3) := by decide +kernel
theorem dX1_undo_38 : decode cX1_undo 38 = .ok (.iload_n 1, 1) := by decide +kernel
theorem dX1_undo_39 : decode cX1_undo 39 = .ok (.isub, 1) := by decide +kernel
theorem dX1_undo_40 : decode cX1_undo 40 = .ok (.putfield 42, 3) := by decide +kernel
theorem dX1_undo_43 : decode cX1_undo 43 = .ok (.iconst 0, 1) := by decide +kernel
theorem dX1_undo_44 : decode cX1_undo 44 = .ok (.istore_n 2, 1) := by decide +kernel
theorem dX1_undo_45 : decode cX1_undo 45 = .ok (.iload_n 2, 1) := by decide +kernel
theorem dX1_undo_46 : decode cX1_undo 46 = .ok (.bipush 6, 2) := by decide +kernel
theorem dX1_undo_48 : decode cX1_undo 48 = .ok (.if_icmp .ge 33, 3) := by decide +kernel
theorem dX1_undo_51 : decode cX1_undo 51 = .ok (.aload_n 0, 1) := by decide +kernel
theorem dX1_undo_52 : decode cX1_undo 52 = .ok (.getfield 22, 3) := by decide +kernel
theorem dX1_undo_55 : decode cX1_undo 55 = .ok (.iload_n 2, 1) := by decide +kernel
theorem dX1_undo_56 : decode cX1_undo 56 = .ok (.aload_n 0, 1) := by decide +kernel
theorem dX1_undo_57 : decode cX1_undo 57 = .ok (.getfield 22, 3) := by decide +kernel
theorem dX1_undo_60 : decode cX1_undo 60 = .ok (.iload_n 2, 1) := by decide +kernel
theorem dX1_undo_61 : decode cX1_undo 61 = .ok (.iaload, 1) := by decide +kernel
theorem dX1_undo_62 : decode cX1_undo 62 = .ok (.aload_n 0, 1) := by decide +kernel
theorem dX1_undo_63 : decode cX1_undo 63 = .ok (.iload_n 2, 1) := by decide +kernel
theorem dX1_undo_64 : decode cX1_undo 64 = .ok (.aload_n 0, 1) := by decide +kernel
theorem dX1_undo_65 : decode cX1_undo 65 = .ok (.getfield 42, 3) := by decide +kernel
theorem dX1_undo_68 : decode cX1_undo 68 = .ok (.invokevirtual 60, 3) := by decide +kernel
theorem dX1_undo_71 : decode cX1_undo 71 = .ok (.invokestatic 64, 3) := by decide +kernel
theorem dX1_undo_74 : decode cX1_undo 74 = .ok (.iastore, 1) := by decide +kernel
theorem dX1_undo_75 : decode cX1_undo 75 = .ok (.iinc 2 1, 3) := by decide +kernel
theorem dX1_undo_78 : decode cX1_undo 78 = .ok (.goto (-33), 3) := by decide +kernel
theorem dX1_undo_81 : decode cX1_undo 81 = .ok (.return_, 1) := by decide +kernel
theorem dX1_many_0 : decode cX1_many 0 = .ok (.iconst 0, 1) := by decide +kernel
theorem dX1_many_1 : decode cX1_many 1 = .ok (.istore_n 3, 1) := by decide +kernel
theorem dX1_many_2 : decode cX1_many 2 = .ok (.iconst 0, 1) := by decide +kernel
theorem dX1_many_3 : decode cX1_many 3 = .ok (.istore 4, 2) := by decide +kernel
theorem dX1_many_5 : decode cX1_many 5 = .ok (.iload 4, 2) := by decide +kernel
theorem dX1_many_7 : decode cX1_many 7 = .ok (.iload_n 2, 1) := by decide +kernel
theorem dX1_many_8 : decode cX1_many 8 = .ok (.if_icmp .ge 23, 3) := by decide +kernel
theorem dX1_many_11 : decode cX1_many 11 = .ok (.aload_n 0, 1) := by decide +kernel
theorem dX1_many_12 : decode cX1_many 12 = .ok (.getfield 9, 3) := by decide +kernel
theorem dX1_many_15 : decode cX1_many 15 = .ok (.iload 4, 2) := by decide +kernel
theorem dX1_many_17 : decode cX1_many 17 = .ok (.iaload, 1) := by decide +kernel
theorem dX1_many_18 : decode cX1_many 18 = .ok (.iload_n 1, 1) := by decide +kernel
theorem dX1_many_19 : decode cX1_many 19 = .ok (.if_icmp .ne 6, 3) := by decide +kernel
theorem dX1_many_22 : decode cX1_many 22 = .ok (.iinc 3 1, 3) := by decide +kernel
theorem dX1_many_25 : decode cX1_many 25 = .ok (.iinc 4 1, 3) := by decide +kernel
theorem dX1_many_28 : decode cX1_many 28 = .ok (.goto (-23), 3) := by decide +kernel
theorem dX1_many_31 : decode cX1_many 31 = .ok (.iload_n 3, 1) := by decide +kernel
theorem dX1_many_32 : decode cX1_many 32 = .ok (.ireturn, 1) := by decide +kernel
theorem dX1_before_0 : decode cX1_before 0 = .ok (.aload_n 0, 1) := by decide +kernel
theorem dX1_before_1 : decode cX1_before 1 = .ok (.iconst 0, 1) := by decide +kernel
theorem dX1_before_2 : decode cX1_before 2 = .ok (.putfield 32, 3) := by decide +kernel
theorem dX1_before_5 : decode cX1_before 5 = .ok (.aload_n 0, 1) := by decide +kernel
theorem dX1_before_6 : decode cX1_before 6 = .ok (.aload_n 0, 1) := by decide +kernel
theorem dX1_before_7 : decode cX1_before 7 = .ok (.iload_n 1, 1) := by decide +kernel
theorem dX1_before_8 : decode cX1_before 8 = .ok (.invokevirtual 57, 3) := by decide +kernel
theorem dX1_before_11 : decode cX1_before 11 = .ok (.ifCond .eq 11, 3) := by decide +kernel
theorem dX1_before_14 : decode cX1_before 14 = .ok (.aload_n 0, 1) := by decide +kernel
theorem dX1_before_15 : decode cX1_before 15 = .ok (.iload_n 2, 1) := by decide +kernel
theorem dX1_before_16 : decode cX1_before 16 = .ok (.invokevirtual 57, 3) := by decide +kernel
theorem dX1_before_19 : decode cX1_before 19 = .ok (.ifCond .ne 7, 3) := by decide +kernel
theorem dX1_before_22 : decode cX1_before 22 = .ok (.iconst 1, 1) := by decide +kernel
theorem dX1_before_23 : decode cX1_before 23 = .ok (.goto 4, 3) := by decide +kernel
theorem dX1_before_26 : decode cX1_before 26 = .ok (.iconst 0, 1) := by decide +kernel
theorem dX1_before_27 : decode cX1_before 27 = .ok (.iconst 1, 1) := by decide +kernel
theorem dX1_before_28 : decode cX1_before 28 = .ok (.invokevirtual 49, 3) := by decide +kernel
theorem dX1_before_31 : decode cX1_before 31 = .ok (.ifCond .eq 5, 3) := by decide +kernel
theorem dX1_before_34 : decode cX1_before 34 = .ok (.iconst 0, 1) := by decide +kernel
theorem dX1_before_35 : decode cX1_before 35 = .ok (.ireturn, 1) := by decide +kernel
theorem dX1_before_36 : decode cX1_before 36 = .ok (.aload_n 0, 1) := by decide +kernel
theorem dX1_before_37 : decode cX1_before 37 = .ok (.iload_n 2, 1) := by decide +kernel
theorem dX1_before_38 : decode cX1_before 38 = .ok (.invokevirtual 73, 3) := by decide +kernel
theorem dX1_before_41 : decode cX1_before 41 = .ok (.aload_n 0, 1) := by decide +kernel
theorem dX1_before_42 : decode cX1_before 42 = .ok (.getfield 29, 3) := by decide +kernel
theorem dX1_before_45 : decode cX1_before 45 = .ok (.iload_n 1, 1) := by decide +kernel
theorem dX1_before_46 : decode cX1_before 46 = .ok (.baload, 1) := by decide +kernel
theorem dX1_before_47 : decode cX1_before 47 = .ok (.ireturn, 1) := by decide +kernel
theorem dX1_back_0 : decode cX1_back 0 = .ok (.iconst 0, 1) := by decide +kernel
theorem dX1_back_1 : decode cX1_back 1 = .ok (.istore_n 2, 1) := by decide +kernel
theorem dX1_back_2 : decode cX1_back 2 = .ok (.iload_n 2, 1) := by decide +kernel
theorem dX1_back_3 : decode cX1_back 3 = .ok (.aload_n 0, 1) := by decide +kernel
theorem dX1_back_4 : decode cX1_back 4 = .ok (.getfield 42, 3) := by decide +kernel
theorem dX1_back_7 : decode cX1_back 7 = .ok (.if_icmp .ge 16, 3) := by decide +kernel
theorem dX1_back_10 : decode cX1_back 10 = .ok (.aload_n 0, 1) := by decide +kernel
theorem dX1_back_11 : decode cX1_back 11 = .ok (.getfield 29, 3) := by decide +kernel
theorem dX1_back_14 : decode cX1_back 14 = .ok (.iload_n 2, 1) := by decide +kernel
theorem dX1_back_15 : decode cX1_back 15 = .ok (.iconst 0, 1) := by decide +kernel
theorem dX1_back_16 : decode cX1_back 16 = .ok (.bastore, 1) := by decide +kernel
theorem dX1_back_17 : decode cX1_back 17 = .ok (.iinc 2 1, 3) := by decide +kernel
theorem dX1_back_20 : decode cX1_back 20 = .ok (.goto (-18), 3) := by decide +kernel
theorem dX1_back_23 : decode cX1_back 23 = .ok (.iconst 0, 1) := by decide +kernel
theorem dX1_back_24 : decode cX1_back 24 = .ok (.istore_n 2, 1) := by decide +kernel
theorem dX1_back_25 : decode cX1_back 25 = .ok (.iload_n 1, 1) := by decide +kernel
theorem dX1_back_26 : decode cX1_back 26 = .ok (.istore_n 3, 1) := by decide +kernel
theorem dX1_back_27 : decode cX1_back 27 = .ok (.iconst 0, 1) := by decide +kernel
theorem dX1_back_28 : decode cX1_back 28 = .ok (.istore 4, 2) := by decide +kernel
theorem dX1_back_30 : decode cX1_back 30 = .ok (.iload 4, 2) := by decide +kernel
theorem dX1_back_32 : decode cX1_back 32 = .ok (.iconst 2, 1) := by decide +kernel
theorem dX1_back_33 : decode cX1_back 33 = .ok (.if_icmp .ge 67, 3) := by decide +kernel
theorem dX1_back_36 : decode cX1_back 36 = .ok (.iload 4, 2) := by decide +kernel
theorem dX1_back_38 : decode cX1_back 38 = .ok (.ifCond .ne 11, 3) := by decide +kernel
theorem dX1_back_41 : decode cX1_back 41 = .ok (.aload_n 0, 1) := by decide +kernel
theorem dX1_back_42 : decode cX1_back 42 = .ok (.iload_n 3, 1) := by decide +kernel
theorem dX1_back_43 : decode cX1_back 43 = .ok (.invokevirtual 69, 3) := by decide +kernel
theorem dX1_back_46 : decode cX1_back 46 = .ok (.goto 9, 3) := by decide +kernel
theorem dX1_back_49 : decode cX1_back 49 = .ok (.aload_n 0, 1) := by decide +kernel
theorem dX1_back_50 : decode cX1_back 50 = .ok (.getfield 13, 3) := by decide +kernel
theorem dX1_back_53 : decode cX1_back 53 = .ok (.iload_n 3, 1) := by decide +kernel
theorem dX1_back_54 : decode cX1_back 54 = .ok (.iaload, 1) := by decide +kernel
theorem dX1_back_55 : decode cX1_back 55 = .ok (.istore 5, 2) := by decide +kernel
theorem dX1_back_57 : decode cX1_back 57 = .ok (.iload 5, 2) := by decide +kernel
theorem dX1_back_59 : decode cX1_back 59 = .ok (.ifCond .lt 35, 3) := by decide +kernel
theorem dX1_back_62 : decode cX1_back 62 = .ok (.aload_n 0, 1) := by decide +kernel
theorem dX1_back_63 : decode cX1_back 63 = .ok (.getfield 29, 3) := by decide +kernel
theorem dX1_back_66 : decode cX1_back 66 = .ok (.iload 5, 2) := by decide +kernel
theorem dX1_back_68 : decode cX1_back 68 = .ok (.baload, 1) := by decide +kernel
theorem dX1_back_69 : decode cX1_back 69 = .ok (.ifCond .eq 6, 3) := by decide +kernel
theorem dX1_back_72 : decode cX1_back 72 = .ok (.goto 22, 3) := by decide +kernel
theorem dX1_back_75 : decode cX1_back 75 = .ok (.aload_n 0, 1) := by decide +kernel
theorem dX1_back_76 : decode cX1_back 76 = .ok (.getfield 29, 3) := by decide +kernel
theorem dX1_back_79 : decode cX1_back 79 = .ok (.iload 5, 2) := by decide +kernel
theorem dX1_back_81 : decode cX1_back 81 = .ok (.iconst 1, 1) := by decide +kernel
theorem dX1_back_82 : decode cX1_back 82 = .ok (.bastore, 1) := by decide +kernel
theorem dX1_back_83 : decode cX1_back 83 = .ok (.aload_n 0, 1) := by decide +kernel
theorem dX1_back_84 : decode cX1_back 84 = .ok (.getfield 16, 3) := by decide +kernel
theorem dX1_back_87 : decode cX1_back 87 = .ok (.iload_n 2, 1) := by decide +kernel
theorem dX1_back_88 : decode cX1_back 88 = .ok (.iinc 2 1, 3) := by decide +kernel
theorem dX1_back_91 : decode cX1_back 91 = .ok (.iload 5, 2) := by decide +kernel
theorem dX1_back_93 : decode cX1_back 93 = .ok (.iastore, 1) := by decide +kernel
theorem dX1_back_94 : decode cX1_back 94 = .ok (.iinc 4 1, 3) := by decide +kernel
theorem dX1_back_97 : decode cX1_back 97 = .ok (.goto (-67), 3) := by decide +kernel
theorem dX1_back_100 : decode cX1_back 100 = .ok (.iload_n 2, 1) := by decide +kernel
theorem dX1_back_101 : decode cX1_back 101 = .ok (.ifCond .ne 4, 3) := by decide +kernel
theorem dX1_back_104 : decode cX1_back 104 = .ok (.return_, 1) := by decide +kernel
theorem dX1_back_105 : decode cX1_back 105 = .ok (.aload_n 0, 1) := by decide +kernel
theorem dX1_back_106 : decode cX1_back 106 = .ok (.getfield 16, 3) := by decide +kernel
theorem dX1_back_109 : decode cX1_back 109 = .ok (.iinc 2 (-1), 3) := by decide +kernel
theorem dX1_back_112 : decode cX1_back 112 = .ok (.iload_n 2, 1) := by decide +kernel
theorem dX1_back_113 : decode cX1_back 113 = .ok (.iaload, 1) := by decide +kernel
theorem dX1_back_114 : decode cX1_back 114 = .ok (.istore_n 3, 1) := by decide +kernel
theorem dX1_back_115 : decode cX1_back 115 = .ok (.goto (-88), 3) := by decide +kernel
theorem dX1_former_0 : decode cX1_former 0 = .ok (.iload_n 1, 1) := by decide +kernel
theorem dX1_former_1 : decode cX1_former 1 = .ok (.iconst 1, 1) := by decide +kernel
theorem dX1_former_2 : decode cX1_former 2 = .ok (.isub, 1) := by decide +kernel
theorem dX1_former_3 : decode cX1_former 3 = .ok (.istore_n 2, 1) := by decide +kernel
theorem dX1_former_4 : decode cX1_former 4 = .ok (.iload_n 2, 1) := by decide +kernel
theorem dX1_former_5 : decode cX1_former 5 = .ok (.ifCond .lt 26, 3) := by decide +kernel
theorem dX1_former_8 : decode cX1_former 8 = .ok (.aload_n 0, 1) := by decide +kernel
theorem dX1_former_9 : decode cX1_former 9 = .ok (.getfield 9, 3) := by decide +kernel
theorem dX1_former_12 : decode cX1_former 12 = .ok (.iload_n 2, 1) := by decide +kernel
theorem dX1_former_13 : decode cX1_former 13 = .ok (.iaload, 1) := by decide +kernel
theorem dX1_former_14 : decode cX1_former 14 = .ok (.aload_n 0, 1) := by decide +kernel
theorem dX1_former_15 : decode cX1_former 15 = .ok (.getfield 9, 3) := by decide +kernel
theorem dX1_former_18 : decode cX1_former 18 = .ok (.iload_n 1, 1) := by decide +kernel
theorem dX1_former_19 : decode cX1_former 19 = .ok (.iaload, 1) := by decide +kernel
theorem dX1_former_20 : decode cX1_former 20 = .ok (.if_icmp .ne 5, 3) := by decide +kernel
theorem dX1_former_23 : decode cX1_former 23 = .ok (.iload_n 2, 1) := by decide +kernel
theorem dX1_former_24 : decode cX1_former 24 = .ok (.ireturn, 1) := by decide +kernel
theorem dX1_former_25 : decode cX1_former 25 = .ok (.iinc 2 (-1), 3) := by decide +kernel
theorem dX1_former_28 : decode cX1_former 28 = .ok (.goto (-24), 3) := by decide +kernel
theorem dX1_former_31 : decode cX1_former 31 = .ok (.iconst (-1), 1) := by decide +kernel
theorem dX1_former_32 : decode cX1_former 32 = .ok (.ireturn, 1) := by decide +kernel
theorem dX1_apart_0 : decode cX1_apart 0 = .ok (.aload_n 0, 1) := by decide +kernel
theorem dX1_apart_1 : decode cX1_apart 1 = .ok (.iconst 0, 1) := by decide +kernel
theorem dX1_apart_2 : decode cX1_apart 2 = .ok (.putfield 32, 3) := by decide +kernel
theorem dX1_apart_5 : decode cX1_apart 5 = .ok (.aload_n 0, 1) := by decide +kernel
theorem dX1_apart_6 : decode cX1_apart 6 = .ok (.aload_n 0, 1) := by decide +kernel
theorem dX1_apart_7 : decode cX1_apart 7 = .ok (.iload_n 1, 1) := by decide +kernel
theorem dX1_apart_8 : decode cX1_apart 8 = .ok (.invokevirtual 57, 3) := by decide +kernel
theorem dX1_apart_11 : decode cX1_apart 11 = .ok (.ifCond .eq 11, 3) := by decide +kernel
theorem dX1_apart_14 : decode cX1_apart 14 = .ok (.aload_n 0, 1) := by decide +kernel
theorem dX1_apart_15 : decode cX1_apart 15 = .ok (.iload_n 2, 1) := by decide +kernel
theorem dX1_apart_16 : decode cX1_apart 16 = .ok (.invokevirtual 57, 3) := by decide +kernel
theorem dX1_apart_19 : decode cX1_apart 19 = .ok (.ifCond .ne 7, 3) := by decide +kernel
theorem dX1_apart_22 : decode cX1_apart 22 = .ok (.iconst 1, 1) := by decide +kernel
theorem dX1_apart_23 : decode cX1_apart 23 = .ok (.goto 4, 3) := by decide +kernel
theorem dX1_apart_26 : decode cX1_apart 26 = .ok (.iconst 0, 1) := by decide +kernel
theorem dX1_apart_27 : decode cX1_apart 27 = .ok (.iconst 1, 1) := by decide +kernel
theorem dX1_apart_28 : decode cX1_apart 28 = .ok (.invokevirtual 49, 3) := by decide +kernel
theorem dX1_apart_31 : decode cX1_apart 31 = .ok (.ifCond .eq 5, 3) := by decide +kernel
theorem dX1_apart_34 : decode cX1_apart 34 = .ok (.iconst 0, 1) := by decide +kernel
theorem dX1_apart_35 : decode cX1_apart 35 = .ok (.ireturn, 1) := by decide +kernel
theorem dX1_apart_36 : decode cX1_apart 36 = .ok (.iload_n 1, 1) := by decide +kernel
theorem dX1_apart_37 : decode cX1_apart 37 = .ok (.iload_n 2, 1) := by decide +kernel
theorem dX1_apart_38 : decode cX1_apart 38 = .ok (.if_icmp .ne 5, 3) := by decide +kernel
theorem dX1_apart_41 : decode cX1_apart 41 = .ok (.iconst 0, 1) := by decide +kernel
theorem dX1_apart_42 : decode cX1_apart 42 = .ok (.ireturn, 1) := by decide +kernel
theorem dX1_apart_43 : decode cX1_apart 43 = .ok (.aload_n 0, 1) := by decide +kernel
theorem dX1_apart_44 : decode cX1_apart 44 = .ok (.iload_n 2, 1) := by decide +kernel
theorem dX1_apart_45 : decode cX1_apart 45 = .ok (.invokevirtual 73, 3) := by decide +kernel
theorem dX1_apart_48 : decode cX1_apart 48 = .ok (.aload_n 0, 1) := by decide +kernel
theorem dX1_apart_49 : decode cX1_apart 49 = .ok (.getfield 29, 3) := by decide +kernel
theorem dX1_apart_52 : decode cX1_apart 52 = .ok (.iload_n 1, 1) := by decide +kernel
theorem dX1_apart_53 : decode cX1_apart 53 = .ok (.baload, 1) := by decide +kernel
theorem dX1_apart_54 : decode cX1_apart 54 = .ok (.ifCond .eq 5, 3) := by decide +kernel
theorem dX1_apart_57 : decode cX1_apart 57 = .ok (.iconst 0, 1) := by decide +kernel
theorem dX1_apart_58 : decode cX1_apart 58 = .ok (.ireturn, 1) := by decide +kernel
theorem dX1_apart_59 : decode cX1_apart 59 = .ok (.aload_n 0, 1) := by decide +kernel
theorem dX1_apart_60 : decode cX1_apart 60 = .ok (.iload_n 1, 1) := by decide +kernel
theorem dX1_apart_61 : decode cX1_apart 61 = .ok (.invokevirtual 73, 3) := by decide +kernel
theorem dX1_apart_64 : decode cX1_apart 64 = .ok (.aload_n 0, 1) := by decide +kernel
theorem dX1_apart_65 : decode cX1_apart 65 = .ok (.getfield 29, 3) := by decide +kernel
theorem dX1_apart_68 : decode cX1_apart 68 = .ok (.iload_n 2, 1) := by decide +kernel
theorem dX1_apart_69 : decode cX1_apart 69 = .ok (.baload, 1) := by decide +kernel
theorem dX1_apart_70 : decode cX1_apart 70 = .ok (.ifCond .ne 7, 3) := by decide +kernel
theorem dX1_apart_73 : decode cX1_apart 73 = .ok (.iconst 1, 1) := by decide +kernel
theorem dX1_apart_74 : decode cX1_apart 74 = .ok (.goto 4, 3) := by decide +kernel
theorem dX1_apart_77 : decode cX1_apart 77 = .ok (.iconst 0, 1) := by decide +kernel
theorem dX1_apart_78 : decode cX1_apart 78 = .ok (.ireturn, 1) := by decide +kernel
theorem dX1_rank_0 : decode cX1_rank 0 = .ok (.aload_n 0, 1) := by decide +kernel
theorem dX1_rank_1 : decode cX1_rank 1 = .ok (.iconst 0, 1) := by decide +kernel
theorem dX1_rank_2 : decode cX1_rank 2 = .ok (.putfield 32, 3) := by decide +kernel
theorem dX1_rank_5 : decode cX1_rank 5 = .ok (.aload_n 0, 1) := by decide +kernel
theorem dX1_rank_6 : decode cX1_rank 6 = .ok (.aload_n 0, 1) := by decide +kernel
theorem dX1_rank_7 : decode cX1_rank 7 = .ok (.iload_n 1, 1) := by decide +kernel
theorem dX1_rank_8 : decode cX1_rank 8 = .ok (.invokevirtual 57, 3) := by decide +kernel
theorem dX1_rank_11 : decode cX1_rank 11 = .ok (.ifCond .ne 7, 3) := by decide +kernel
theorem dX1_rank_14 : decode cX1_rank 14 = .ok (.iconst 1, 1) := by decide +kernel
theorem dX1_rank_15 : decode cX1_rank 15 = .ok (.goto 4, 3) := by decide +kernel
theorem dX1_rank_18 : decode cX1_rank 18 = .ok (.iconst 0, 1) := by decide +kernel
theorem dX1_rank_19 : decode cX1_rank 19 = .ok (.iconst 1, 1) := by decide +kernel
theorem dX1_rank_20 : decode cX1_rank 20 = .ok (.invokevirtual 49, 3) := by decide +kernel
theorem dX1_rank_23 : decode cX1_rank 23 = .ok (.ifCond .eq 7, 3) := by decide +kernel
theorem dX1_rank_26 : decode cX1_rank 26 = .ok (.iconst 0, 1) := by decide +kernel
theorem dX1_rank_27 : decode cX1_rank 27 = .ok (.goto 8, 3) := by decide +kernel
theorem dX1_rank_30 : decode cX1_rank 30 = .ok (.aload_n 0, 1) := by decide +kernel
theorem dX1_rank_31 : decode cX1_rank 31 = .ok (.iload_n 1, 1) := by decide +kernel
theorem dX1_rank_32 : decode cX1_rank 32 = .ok (.invokevirtual 80, 3) := by decide +kernel
theorem dX1_rank_35 : decode cX1_rank 35 = .ok (.ireturn, 1) := by decide +kernel
theorem dX1_longest_0 : decode cX1_longest 0 = .ok (.iconst 0, 1) := by decide +kernel
theorem dX1_longest_1 : decode cX1_longest 1 = .ok (.istore_n 2, 1) := by decide +kernel
theorem dX1_longest_2 : decode cX1_longest 2 = .ok (.iload_n 2, 1) := by decide +kernel
theorem dX1_longest_3 : decode cX1_longest 3 = .ok (.iload_n 1, 1) := by decide +kernel
theorem dX1_longest_4 : decode cX1_longest 4 = .ok (.if_icmp .gt 64, 3) := by decide +kernel
theorem dX1_longest_7 : decode cX1_longest 7 = .ok (.aload_n 0, 1) := by decide +kernel
theorem dX1_longest_8 : decode cX1_longest 8 = .ok (.iload_n 2, 1) := by decide +kernel
theorem dX1_longest_9 : decode cX1_longest 9 = .ok (.invokevirtual 69, 3) := by decide +kernel
theorem dX1_longest_12 : decode cX1_longest 12 = .ok (.istore_n 3, 1) := by decide +kernel
theorem dX1_longest_13 : decode cX1_longest 13 = .ok (.aload_n 0, 1) := by decide +kernel
theorem dX1_longest_14 : decode cX1_longest 14 = .ok (.getfield 13, 3) := by decide +kernel
theorem dX1_longest_17 : decode cX1_longest 17 = .ok (.iload_n 2, 1) := by decide +kernel
theorem dX1_longest_18 : decode cX1_longest 18 = .ok (.iaload, 1) := by decide +kernel
theorem dX1_longest_19 : decode cX1_longest 19 = .ok (.istore 4, 2) := by decide +kernel
theorem dX1_longest_21 : decode cX1_longest 21 = .ok (.aload_n 0, 1) := by decide +kernel
theorem dX1_longest_22 : decode cX1_longest 22 = .ok (.getfield 19, 3) := by decide +kernel
theorem dX1_longest_25 : decode cX1_longest 25 = .ok (.iload_n 2, 1) := by decide +kernel
theorem dX1_longest_26 : decode cX1_longest 26 = .ok (.iconst 1, 1) := by decide +kernel
theorem dX1_longest_27 : decode cX1_longest 27 = .ok (.iload_n 3, 1) := by decide +kernel
theorem dX1_longest_28 : decode cX1_longest 28 = .ok (.ifCond .ge 7, 3) := by decide +kernel
theorem dX1_longest_31 : decode cX1_longest 31 = .ok (.iconst 0, 1) := by decide +kernel
theorem dX1_longest_32 : decode cX1_longest 32 = .ok (.goto 9, 3) := by decide +kernel
theorem dX1_longest_35 : decode cX1_longest 35 = .ok (.aload_n 0, 1) := by decide +kernel
theorem dX1_longest_36 : decode cX1_longest 36 = .ok (.getfield 19, 3) := by decide +kernel
theorem dX1_longest_39 : decode cX1_longest 39 = .ok (.iload_n 3, 1) := by decide +kernel
theorem dX1_longest_40 : decode cX1_longest 40 = .ok (.iaload, 1) := by decide +kernel
theorem dX1_longest_41 : decode cX1_longest 41 = .ok (.iload 4, 2) := by decide +kernel
theorem dX1_longest_43 : decode cX1_longest 43 = .ok (.ifCond .ge 7, 3) := by decide +kernel
theorem dX1_longest_46 : decode cX1_longest 46 = .ok (.iconst 0, 1) := by decide +kernel
theorem dX1_longest_47 : decode cX1_longest 47 = .ok (.goto 10, 3) := by decide +kernel
theorem dX1_longest_50 : decode cX1_longest 50 = .ok (.aload_n 0, 1) := by decide +kernel
theorem dX1_longest_51 : decode cX1_longest 51 = .ok (.getfield 19, 3) := by decide +kernel
theorem dX1_longest_54 : decode cX1_longest 54 = .ok (.iload 4, 2) := by decide +kernel
theorem dX1_longest_56 : decode cX1_longest 56 = .ok (.iaload, 1) := by decide +kernel
theorem dX1_longest_57 : decode cX1_longest 57 = .ok (.invokestatic 77, 3) := by decide +kernel
theorem dX1_longest_60 : decode cX1_longest 60 = .ok (.iadd, 1) := by decide +kernel
theorem dX1_longest_61 : decode cX1_longest 61 = .ok (.iastore, 1) := by decide +kernel
theorem dX1_longest_62 : decode cX1_longest 62 = .ok (.iinc 2 1, 3) := by decide +kernel
theorem dX1_longest_65 : decode cX1_longest 65 = .ok (.goto (-63), 3) := by decide +kernel
theorem dX1_longest_68 : decode cX1_longest 68 = .ok (.aload_n 0, 1) := by decide +kernel
theorem dX1_longest_69 : decode cX1_longest 69 = .ok (.getfield 19, 3) := by decide +kernel
theorem dX1_longest_72 : decode cX1_longest 72 = .ok (.iload_n 1, 1) := by decide +kernel
theorem dX1_longest_73 : decode cX1_longest 73 = .ok (.iaload, 1) := by decide +kernel
theorem dX1_longest_74 : decode cX1_longest 74 = .ok (.ireturn, 1) := by decide +kernel
theorem dX1_clock_0 : decode cX1_clock 0 = .ok (.aload_n 0, 1) := by decide +kernel
theorem dX1_clock_1 : decode cX1_clock 1 = .ok (.iconst 0, 1) := by decide +kernel
theorem dX1_clock_2 : decode cX1_clock 2 = .ok (.putfield 32, 3) := by decide +kernel
theorem dX1_clock_5 : decode cX1_clock 5 = .ok (.aload_n 0, 1) := by decide +kernel
theorem dX1_clock_6 : decode cX1_clock 6 = .ok (.iload_n 2, 1) := by decide +kernel
theorem dX1_clock_7 : decode cX1_clock 7 = .ok (.invokestatic 45, 3) := by decide +kernel
theorem dX1_clock_10 : decode cX1_clock 10 = .ok (.ifCond .ne 7, 3) := by decide +kernel
theorem dX1_clock_13 : decode cX1_clock 13 = .ok (.iconst 1, 1) := by decide +kernel
theorem dX1_clock_14 : decode cX1_clock 14 = .ok (.goto 4, 3) := by decide +kernel
theorem dX1_clock_17 : decode cX1_clock 17 = .ok (.iconst 0, 1) := by decide +kernel
theorem dX1_clock_18 : decode cX1_clock 18 = .ok (.iconst 1, 1) := by decide +kernel
theorem dX1_clock_19 : decode cX1_clock 19 = .ok (.invokevirtual 49, 3) := by decide +kernel
theorem dX1_clock_22 : decode cX1_clock 22 = .ok (.ifCond .ne 24, 3) := by decide +kernel
theorem dX1_clock_25 : decode cX1_clock 25 = .ok (.aload_n 0, 1) := by decide +kernel
theorem dX1_clock_26 : decode cX1_clock 26 = .ok (.aload_n 0, 1) := by decide +kernel
theorem dX1_clock_27 : decode cX1_clock 27 = .ok (.iload_n 1, 1) := by decide +kernel
theorem dX1_clock_28 : decode cX1_clock 28 = .ok (.invokevirtual 57, 3) := by decide +kernel
theorem dX1_clock_31 : decode cX1_clock 31 = .ok (.ifCond .ne 7, 3) := by decide +kernel
theorem dX1_clock_34 : decode cX1_clock 34 = .ok (.iconst 1, 1) := by decide +kernel
theorem dX1_clock_35 : decode cX1_clock 35 = .ok (.goto 4, 3) := by decide +kernel
theorem dX1_clock_38 : decode cX1_clock 38 = .ok (.iconst 0, 1) := by decide +kernel
theorem dX1_clock_39 : decode cX1_clock 39 = .ok (.iconst 2, 1) := by decide +kernel
theorem dX1_clock_40 : decode cX1_clock 40 = .ok (.invokevirtual 49, 3) := by decide +kernel
theorem dX1_clock_43 : decode cX1_clock 43 = .ok (.ifCond .eq 5, 3) := by decide +kernel
theorem dX1_clock_46 : decode cX1_clock 46 = .ok (.iconst 0, 1) := by decide +kernel
theorem dX1_clock_47 : decode cX1_clock 47 = .ok (.ireturn, 1) := by decide +kernel
theorem dX1_clock_48 : decode cX1_clock 48 = .ok (.aload_n 0, 1) := by decide +kernel
theorem dX1_clock_49 : decode cX1_clock 49 = .ok (.iload_n 1, 1) := by decide +kernel
theorem dX1_clock_50 : decode cX1_clock 50 = .ok (.invokevirtual 73, 3) := by decide +kernel
theorem dX1_clock_53 : decode cX1_clock 53 = .ok (.aload_n 0, 1) := by decide +kernel
theorem dX1_clock_54 : decode cX1_clock 54 = .ok (.getfield 9, 3) := by decide +kernel
theorem dX1_clock_57 : decode cX1_clock 57 = .ok (.iload_n 1, 1) := by decide +kernel
theorem dX1_clock_58 : decode cX1_clock 58 = .ok (.iaload, 1) := by decide +kernel
theorem dX1_clock_59 : decode cX1_clock 59 = .ok (.iload_n 2, 1) := by decide +kernel
theorem dX1_clock_60 : decode cX1_clock 60 = .ok (.if_icmp .ne 7, 3) := by decide +kernel
theorem dX1_clock_63 : decode cX1_clock 63 = .ok (.iconst 1, 1) := by decide +kernel
theorem dX1_clock_64 : decode cX1_clock 64 = .ok (.goto 4, 3) := by decide +kernel
theorem dX1_clock_67 : decode cX1_clock 67 = .ok (.iconst 0, 1) := by decide +kernel
theorem dX1_clock_68 : decode cX1_clock 68 = .ok (.istore_n 3, 1) := by decide +kernel
theorem dX1_clock_69 : decode cX1_clock 69 = .ok (.iconst 0, 1) := by decide +kernel
theorem dX1_clock_70 : decode cX1_clock 70 = .ok (.istore 4, 2) := by decide +kernel
theorem dX1_clock_72 : decode cX1_clock 72 = .ok (.iload 4, 2) := by decide +kernel
theorem dX1_clock_74 : decode cX1_clock 74 = .ok (.aload_n 0, 1) := by decide +kernel
theorem dX1_clock_75 : decode cX1_clock 75 = .ok (.getfield 42, 3) := by decide +kernel
theorem dX1_clock_78 : decode cX1_clock 78 = .ok (.if_icmp .ge 33, 3) := by decide +kernel
theorem dX1_clock_81 : decode cX1_clock 81 = .ok (.aload_n 0, 1) := by decide +kernel
theorem dX1_clock_82 : decode cX1_clock 82 = .ok (.getfield 29, 3) := by decide +kernel
theorem dX1_clock_85 : decode cX1_clock 85 = .ok (.iload 4, 2) := by decide +kernel
theorem dX1_clock_87 : decode cX1_clock 87 = .ok (.baload, 1) := by decide +kernel
theorem dX1_clock_88 : decode cX1_clock 88 = .ok (.ifCond .eq 17, 3) := by decide +kernel
theorem dX1_clock_91 : decode cX1_clock 91 = .ok (.aload_n 0, 1) := by decide +kernel
theorem dX1_clock_92 : decode cX1_clock 92 = .ok (.getfield 9, 3) := by decide +kernel
theorem dX1_clock_95 : decode cX1_clock 95 = .ok (.iload 4, 2) := by decide +kernel
theorem dX1_clock_97 : decode cX1_clock 97 = .ok (.iaload, 1) := by decide +kernel
theorem dX1_clock_98 : decode cX1_clock 98 = .ok (.iload_n 2, 1) := by decide +kernel
theorem dX1_clock_99 : decode cX1_clock 99 = .ok (.if_icmp .ne 6, 3) := by decide +kernel
theorem dX1_clock_102 : decode cX1_clock 102 = .ok (.iinc 3 1, 3) := by decide +kernel
theorem dX1_clock_105 : decode cX1_clock 105 = .ok (.iinc 4 1, 3) := by decide +kernel
theorem dX1_clock_108 : decode cX1_clock 108 = .ok (.goto (-36), 3) := by decide +kernel
theorem dX1_clock_111 : decode cX1_clock 111 = .ok (.iload_n 3, 1) := by decide +kernel
theorem dX1_clock_112 : decode cX1_clock 112 = .ok (.ireturn, 1) := by decide +kernel
theorem dX1_cut_0 : decode cX1_cut 0 = .ok (.aload_n 0, 1) := by decide +kernel
theorem dX1_cut_1 : decode cX1_cut 1 = .ok (.iconst 0, 1) := by decide +kernel
theorem dX1_cut_2 : decode cX1_cut 2 = .ok (.putfield 32, 3) := by decide +kernel
theorem dX1_cut_5 : decode cX1_cut 5 = .ok (.aload_n 0, 1) := by decide +kernel
theorem dX1_cut_6 : decode cX1_cut 6 = .ok (.iload_n 1, 1) := by decide +kernel
theorem dX1_cut_7 : decode cX1_cut 7 = .ok (.invokestatic 45, 3) := by decide +kernel
theorem dX1_cut_10 : decode cX1_cut 10 = .ok (.ifCond .eq 22, 3) := by decide +kernel
theorem dX1_cut_13 : decode cX1_cut 13 = .ok (.iload_n 2, 1) := by decide +kernel
theorem dX1_cut_14 : decode cX1_cut 14 = .ok (.i2l, 1) := by decide +kernel
theorem dX1_cut_15 : decode cX1_cut 15 = .ok (.lconst 0, 1) := by decide +kernel
theorem dX1_cut_16 : decode cX1_cut 16 = .ok (.aload_n 0, 1) := by decide +kernel
theorem dX1_cut_17 : decode cX1_cut 17 = .ok (.iload_n 1, 1) := by decide +kernel
theorem dX1_cut_18 : decode cX1_cut 18 = .ok (.aload_n 0, 1) := by decide +kernel
theorem dX1_cut_19 : decode cX1_cut 19 = .ok (.getfield 42, 3) := by decide +kernel
theorem dX1_cut_22 : decode cX1_cut 22 = .ok (.invokevirtual 60, 3) := by decide +kernel
theorem dX1_cut_25 : decode cX1_cut 25 = .ok (.i2l, 1) := by decide +kernel
theorem dX1_cut_26 : decode cX1_cut 26 = .ok (.invokestatic 38, 3) := by decide +kernel
theorem dX1_cut_29 : decode cX1_cut 29 = .ok (.ifCond .ne 7, 3) := by decide +kernel
theorem dX1_cut_32 : decode cX1_cut 32 = .ok (.iconst 1, 1) := by decide +kernel
theorem dX1_cut_33 : decode cX1_cut 33 = .ok (.goto 4, 3) := by decide +kernel
theorem dX1_cut_36 : decode cX1_cut 36 = .ok (.iconst 0, 1) := by decide +kernel
theorem dX1_cut_37 : decode cX1_cut 37 = .ok (.iconst 1, 1) := by decide +kernel
theorem dX1_cut_38 : decode cX1_cut 38 = .ok (.invokevirtual 49, 3) := by decide +kernel
theorem dX1_cut_41 : decode cX1_cut 41 = .ok (.ifCond .eq 4, 3) := by decide +kernel
theorem dX1_cut_44 : decode cX1_cut 44 = .ok (.return_, 1) := by decide +kernel
theorem dX1_cut_45 : decode cX1_cut 45 = .ok (.aload_n 0, 1) := by decide +kernel
theorem dX1_cut_46 : decode cX1_cut 46 = .ok (.getfield 22, 3) := by decide +kernel
theorem dX1_cut_49 : decode cX1_cut 49 = .ok (.iload_n 1, 1) := by decide +kernel
theorem dX1_cut_50 : decode cX1_cut 50 = .ok (.iload_n 2, 1) := by decide +kernel
theorem dX1_cut_51 : decode cX1_cut 51 = .ok (.iastore, 1) := by decide +kernel
theorem dX1_cut_52 : decode cX1_cut 52 = .ok (.return_, 1) := by decide +kernel
theorem dX1_whole_0 : decode cX1_whole 0 = .ok (.aload_n 0, 1) := by decide +kernel
theorem dX1_whole_1 : decode cX1_whole 1 = .ok (.iconst 0, 1) := by decide +kernel
theorem dX1_whole_2 : decode cX1_whole 2 = .ok (.putfield 32, 3) := by decide +kernel
theorem dX1_whole_5 : decode cX1_whole 5 = .ok (.aload_n 0, 1) := by decide +kernel
theorem dX1_whole_6 : decode cX1_whole 6 = .ok (.invokevirtual 86, 3) := by decide +kernel
theorem dX1_whole_9 : decode cX1_whole 9 = .ok (.ifCond .ge 7, 3) := by decide +kernel
theorem dX1_whole_12 : decode cX1_whole 12 = .ok (.iconst 1, 1) := by decide +kernel
theorem dX1_whole_13 : decode cX1_whole 13 = .ok (.goto 4, 3) := by decide +kernel
theorem dX1_whole_16 : decode cX1_whole 16 = .ok (.iconst 0, 1) := by decide +kernel
theorem dX1_whole_17 : decode cX1_whole 17 = .ok (.ireturn, 1) := by decide +kernel
theorem dX1_open0_0 : decode cX1_open0 0 = .ok (.iconst 0, 1) := by decide +kernel
theorem dX1_open0_1 : decode cX1_open0 1 = .ok (.istore_n 1, 1) := by decide +kernel
theorem dX1_open0_2 : decode cX1_open0 2 = .ok (.iload_n 1, 1) := by decide +kernel
theorem dX1_open0_3 : decode cX1_open0 3 = .ok (.aload_n 0, 1) := by decide +kernel
theorem dX1_open0_4 : decode cX1_open0 4 = .ok (.getfield 42, 3) := by decide +kernel
theorem dX1_open0_7 : decode cX1_open0 7 = .ok (.if_icmp .ge 41, 3) := by decide +kernel
theorem dX1_open0_10 : decode cX1_open0 10 = .ok (.aload_n 0, 1) := by decide +kernel
theorem dX1_open0_11 : decode cX1_open0 11 = .ok (.iload_n 1, 1) := by decide +kernel
theorem dX1_open0_12 : decode cX1_open0 12 = .ok (.invokevirtual 83, 3) := by decide +kernel
theorem dX1_open0_15 : decode cX1_open0 15 = .ok (.ifCond .eq 27, 3) := by decide +kernel
theorem dX1_open0_18 : decode cX1_open0 18 = .ok (.aload_n 0, 1) := by decide +kernel
theorem dX1_open0_19 : decode cX1_open0 19 = .ok (.getfield 13, 3) := by decide +kernel
theorem dX1_open0_22 : decode cX1_open0 22 = .ok (.iload_n 1, 1) := by decide +kernel
theorem dX1_open0_23 : decode cX1_open0 23 = .ok (.iaload, 1) := by decide +kernel
theorem dX1_open0_24 : decode cX1_open0 24 = .ok (.ifCond .lt 18, 3) := by decide +kernel
theorem dX1_open0_27 : decode cX1_open0 27 = .ok (.aload_n 0, 1) := by decide +kernel
theorem dX1_open0_28 : decode cX1_open0 28 = .ok (.aload_n 0, 1) := by decide +kernel
theorem dX1_open0_29 : decode cX1_open0 29 = .ok (.getfield 13, 3) := by decide +kernel
theorem dX1_open0_32 : decode cX1_open0 32 = .ok (.iload_n 1, 1) := by decide +kernel
theorem dX1_open0_33 : decode cX1_open0 33 = .ok (.iaload, 1) := by decide +kernel
theorem dX1_open0_34 : decode cX1_open0 34 = .ok (.invokevirtual 83, 3) := by decide +kernel
theorem dX1_open0_37 : decode cX1_open0 37 = .ok (.ifCond .ne 5, 3) := by decide +kernel
theorem dX1_open0_40 : decode cX1_open0 40 = .ok (.iload_n 1, 1) := by decide +kernel
theorem dX1_open0_41 : decode cX1_open0 41 = .ok (.ireturn, 1) := by decide +kernel
theorem dX1_open0_42 : decode cX1_open0 42 = .ok (.iinc 1 1, 3) := by decide +kernel
theorem dX1_open0_45 : decode cX1_open0 45 = .ok (.goto (-43), 3) := by decide +kernel
theorem dX1_open0_48 : decode cX1_open0 48 = .ok (.iconst (-1), 1) := by decide +kernel
theorem dX1_open0_49 : decode cX1_open0 49 = .ok (.ireturn, 1) := by decide +kernel
theorem dX1_isIn_0 : decode cX1_isIn 0 = .ok (.aload_n 0, 1) := by decide +kernel
theorem dX1_isIn_1 : decode cX1_isIn 1 = .ok (.aload_n 0, 1) := by decide +kernel
theorem dX1_isIn_2 : decode cX1_isIn 2 = .ok (.getfield 9, 3) := by decide +kernel
theorem dX1_isIn_5 : decode cX1_isIn 5 = .ok (.iload_n 1, 1) := by decide +kernel
theorem dX1_isIn_6 : decode cX1_isIn 6 = .ok (.iaload, 1) := by decide +kernel
theorem dX1_isIn_7 : decode cX1_isIn 7 = .ok (.iload_n 1, 1) := by decide +kernel
theorem dX1_isIn_8 : decode cX1_isIn 8 = .ok (.invokevirtual 60, 3) := by decide +kernel
theorem dX1_isIn_11 : decode cX1_isIn 11 = .ok (.aload_n 0, 1) := by decide +kernel
theorem dX1_isIn_12 : decode cX1_isIn 12 = .ok (.getfield 22, 3) := by decide +kernel
theorem dX1_isIn_15 : decode cX1_isIn 15 = .ok (.aload_n 0, 1) := by decide +kernel
theorem dX1_isIn_16 : decode cX1_isIn 16 = .ok (.getfield 9, 3) := by decide +kernel
theorem dX1_isIn_19 : decode cX1_isIn 19 = .ok (.iload_n 1, 1) := by decide +kernel
theorem dX1_isIn_20 : decode cX1_isIn 20 = .ok (.iaload, 1) := by decide +kernel
theorem dX1_isIn_21 : decode cX1_isIn 21 = .ok (.iaload, 1) := by decide +kernel
theorem dX1_isIn_22 : decode cX1_isIn 22 = .ok (.if_icmp .ge 7, 3) := by decide +kernel
theorem dX1_isIn_25 : decode cX1_isIn 25 = .ok (.iconst 1, 1) := by decide +kernel
theorem dX1_isIn_26 : decode cX1_isIn 26 = .ok (.goto 4, 3) := by decide +kernel
theorem dX1_isIn_29 : decode cX1_isIn 29 = .ok (.iconst 0, 1) := by decide +kernel
theorem dX1_isIn_30 : decode cX1_isIn 30 = .ok (.ireturn, 1) := by decide +kernel
theorem dX1_close_0 : decode cX1_close 0 = .ok (.aload_n 0, 1) := by decide +kernel
theorem dX1_close_1 : decode cX1_close 1 = .ok (.iconst 0, 1) := by decide +kernel
theorem dX1_close_2 : decode cX1_close 2 = .ok (.putfield 32, 3) := by decide +kernel
theorem dX1_close_5 : decode cX1_close 5 = .ok (.aload_n 0, 1) := by decide +kernel
theorem dX1_close_6 : decode cX1_close 6 = .ok (.invokevirtual 86, 3) := by decide +kernel
theorem dX1_close_9 : decode cX1_close 9 = .ok (.istore_n 1, 1) := by decide +kernel
theorem dX1_close_10 : decode cX1_close 10 = .ok (.iload_n 1, 1) := by decide +kernel
theorem dX1_close_11 : decode cX1_close 11 = .ok (.ifCond .lt 31, 3) := by decide +kernel
theorem dX1_close_14 : decode cX1_close 14 = .ok (.aload_n 0, 1) := by decide +kernel
theorem dX1_close_15 : decode cX1_close 15 = .ok (.getfield 22, 3) := by decide +kernel
theorem dX1_close_18 : decode cX1_close 18 = .ok (.aload_n 0, 1) := by decide +kernel
theorem dX1_close_19 : decode cX1_close 19 = .ok (.getfield 9, 3) := by decide +kernel
theorem dX1_close_22 : decode cX1_close 22 = .ok (.aload_n 0, 1) := by decide +kernel
theorem dX1_close_23 : decode cX1_close 23 = .ok (.getfield 13, 3) := by decide +kernel
theorem dX1_close_26 : decode cX1_close 26 = .ok (.iload_n 1, 1) := by decide +kernel
theorem dX1_close_27 : decode cX1_close 27 = .ok (.iaload, 1) := by decide +kernel
theorem dX1_close_28 : decode cX1_close 28 = .ok (.iaload, 1) := by decide +kernel
theorem dX1_close_29 : decode cX1_close 29 = .ok (.dup2, 1) := by decide +kernel
theorem dX1_close_30 : decode cX1_close 30 = .ok (.iaload, 1) := by decide +kernel
theorem dX1_close_31 : decode cX1_close 31 = .ok (.iconst 1, 1) := by decide +kernel
theorem dX1_close_32 : decode cX1_close 32 = .ok (.iadd, 1) := by decide +kernel
theorem dX1_close_33 : decode cX1_close 33 = .ok (.iastore, 1) := by decide +kernel
theorem dX1_close_34 : decode cX1_close 34 = .ok (.aload_n 0, 1) := by decide +kernel
theorem dX1_close_35 : decode cX1_close 35 = .ok (.invokevirtual 86, 3) := by decide +kernel
theorem dX1_close_38 : decode cX1_close 38 = .ok (.istore_n 1, 1) := by decide +kernel
theorem dX1_close_39 : decode cX1_close 39 = .ok (.goto (-29), 3) := by decide +kernel
theorem dX1_close_42 : decode cX1_close 42 = .ok (.aload_n 0, 1) := by decide +kernel
theorem dX1_close_43 : decode cX1_close 43 = .ok (.invokevirtual 90, 3) := by decide +kernel
theorem dX1_close_46 : decode cX1_close 46 = .ok (.ireturn, 1) := by decide +kernel
theorem dX1_inCut_0 : decode cX1_inCut 0 = .ok (.iconst 0, 1) := by decide +kernel
theorem dX1_inCut_1 : decode cX1_inCut 1 = .ok (.istore_n 1, 1) := by decide +kernel
theorem dX1_inCut_2 : decode cX1_inCut 2 = .ok (.iconst 0, 1) := by decide +kernel
theorem dX1_inCut_3 : decode cX1_inCut 3 = .ok (.istore_n 2, 1) := by decide +kernel
theorem dX1_inCut_4 : decode cX1_inCut 4 = .ok (.iload_n 2, 1) := by decide +kernel
theorem dX1_inCut_5 : decode cX1_inCut 5 = .ok (.aload_n 0, 1) := by decide +kernel
theorem dX1_inCut_6 : decode cX1_inCut 6 = .ok (.getfield 42, 3) := by decide +kernel
theorem dX1_inCut_9 : decode cX1_inCut 9 = .ok (.if_icmp .ge 20, 3) := by decide +kernel
theorem dX1_inCut_12 : decode cX1_inCut 12 = .ok (.aload_n 0, 1) := by decide +kernel
theorem dX1_inCut_13 : decode cX1_inCut 13 = .ok (.iload_n 2, 1) := by decide +kernel
theorem dX1_inCut_14 : decode cX1_inCut 14 = .ok (.invokevirtual 83, 3) := by decide +kernel
theorem dX1_inCut_17 : decode cX1_inCut 17 = .ok (.ifCond .eq 6, 3) := by decide +kernel
theorem dX1_inCut_20 : decode cX1_inCut 20 = .ok (.iinc 1 1, 3) := by decide +kernel
theorem dX1_inCut_23 : decode cX1_inCut 23 = .ok (.iinc 2 1, 3) := by decide +kernel
theorem dX1_inCut_26 : decode cX1_inCut 26 = .ok (.goto (-22), 3) := by decide +kernel
theorem dX1_inCut_29 : decode cX1_inCut 29 = .ok (.iload_n 1, 1) := by decide +kernel
theorem dX1_inCut_30 : decode cX1_inCut 30 = .ok (.ireturn, 1) := by decide +kernel
theorem dX1_open_0 : decode cX1_open 0 = .ok (.aload_n 0, 1) := by decide +kernel
theorem dX1_open_1 : decode cX1_open 1 = .ok (.iconst 0, 1) := by decide +kernel
theorem dX1_open_2 : decode cX1_open 2 = .ok (.putfield 32, 3) := by decide +kernel
theorem dX1_open_5 : decode cX1_open 5 = .ok (.aload_n 0, 1) := by decide +kernel
theorem dX1_open_6 : decode cX1_open 6 = .ok (.invokevirtual 86, 3) := by decide +kernel
theorem dX1_open_9 : decode cX1_open 9 = .ok (.istore_n 1, 1) := by decide +kernel
theorem dX1_open_10 : decode cX1_open 10 = .ok (.iload_n 1, 1) := by decide +kernel
theorem dX1_open_11 : decode cX1_open 11 = .ok (.ifCond .lt 26, 3) := by decide +kernel
theorem dX1_open_14 : decode cX1_open 14 = .ok (.aload_n 0, 1) := by decide +kernel
theorem dX1_open_15 : decode cX1_open 15 = .ok (.getfield 22, 3) := by decide +kernel
theorem dX1_open_18 : decode cX1_open 18 = .ok (.aload_n 0, 1) := by decide +kernel
theorem dX1_open_19 : decode cX1_open 19 = .ok (.getfield 9, 3) := by decide +kernel
theorem dX1_open_22 : decode cX1_open 22 = .ok (.iload_n 1, 1) := by decide +kernel
theorem dX1_open_23 : decode cX1_open 23 = .ok (.iaload, 1) := by decide +kernel
theorem dX1_open_24 : decode cX1_open 24 = .ok (.dup2, 1) := by decide +kernel
theorem dX1_open_25 : decode cX1_open 25 = .ok (.iaload, 1) := by decide +kernel
theorem dX1_open_26 : decode cX1_open 26 = .ok (.iconst 1, 1) := by decide +kernel
theorem dX1_open_27 : decode cX1_open 27 = .ok (.isub, 1) := by decide +kernel
theorem dX1_open_28 : decode cX1_open 28 = .ok (.iastore, 1) := by decide +kernel
theorem dX1_open_29 : decode cX1_open 29 = .ok (.aload_n 0, 1) := by decide +kernel
theorem dX1_open_30 : decode cX1_open 30 = .ok (.invokevirtual 86, 3) := by decide +kernel
theorem dX1_open_33 : decode cX1_open 33 = .ok (.istore_n 1, 1) := by decide +kernel
theorem dX1_open_34 : decode cX1_open 34 = .ok (.goto (-24), 3) := by decide +kernel
theorem dX1_open_37 : decode cX1_open 37 = .ok (.aload_n 0, 1) := by decide +kernel
theorem dX1_open_38 : decode cX1_open 38 = .ok (.invokevirtual 90, 3) := by decide +kernel
theorem dX1_open_41 : decode cX1_open 41 = .ok (.ireturn, 1) := by decide +kernel
theorem dX1_count_0 : decode cX1_count 0 = .ok (.aload_n 0, 1) := by decide +kernel
theorem dX1_count_1 : decode cX1_count 1 = .ok (.iconst 0, 1) := by decide +kernel
theorem dX1_count_2 : decode cX1_count 2 = .ok (.putfield 32, 3) := by decide +kernel
theorem dX1_count_5 : decode cX1_count 5 = .ok (.aload_n 0, 1) := by decide +kernel
theorem dX1_count_6 : decode cX1_count 6 = .ok (.iload_n 1, 1) := by decide +kernel
theorem dX1_count_7 : decode cX1_count 7 = .ok (.i2l, 1) := by decide +kernel
theorem dX1_count_8 : decode cX1_count 8 = .ok (.lconst 0, 1) := by decide +kernel
theorem dX1_count_9 : decode cX1_count 9 = .ok (.ldc2_w 93, 3) := by decide +kernel
theorem dX1_count_12 : decode cX1_count 12 = .ok (.invokestatic 38, 3) := by decide +kernel
theorem dX1_count_15 : decode cX1_count 15 = .ok (.ifCond .ne 7, 3) := by decide +kernel
theorem dX1_count_18 : decode cX1_count 18 = .ok (.iconst 1, 1) := by decide +kernel
theorem dX1_count_19 : decode cX1_count 19 = .ok (.goto 4, 3) := by decide +kernel
theorem dX1_count_22 : decode cX1_count 22 = .ok (.iconst 0, 1) := by decide +kernel
theorem dX1_count_23 : decode cX1_count 23 = .ok (.iconst 1, 1) := by decide +kernel
theorem dX1_count_24 : decode cX1_count 24 = .ok (.invokevirtual 49, 3) := by decide +kernel
theorem dX1_count_27 : decode cX1_count 27 = .ok (.ifCond .eq 5, 3) := by decide +kernel
theorem dX1_count_30 : decode cX1_count 30 = .ok (.iconst 0, 1) := by decide +kernel
theorem dX1_count_31 : decode cX1_count 31 = .ok (.ireturn, 1) := by decide +kernel
theorem dX1_count_32 : decode cX1_count 32 = .ok (.iload_n 1, 1) := by decide +kernel
theorem dX1_count_33 : decode cX1_count 33 = .ok (.ifCond .ne 8, 3) := by decide +kernel
theorem dX1_count_36 : decode cX1_count 36 = .ok (.aload_n 0, 1) := by decide +kernel
theorem dX1_count_37 : decode cX1_count 37 = .ok (.getfield 42, 3) := by decide +kernel
theorem dX1_count_40 : decode cX1_count 40 = .ok (.ireturn, 1) := by decide +kernel
theorem dX1_count_41 : decode cX1_count 41 = .ok (.iload_n 1, 1) := by decide +kernel
theorem dX1_count_42 : decode cX1_count 42 = .ok (.iconst 3, 1) := by decide +kernel
theorem dX1_count_43 : decode cX1_count 43 = .ok (.if_icmp .ne 8, 3) := by decide +kernel
theorem dX1_count_46 : decode cX1_count 46 = .ok (.aload_n 0, 1) := by decide +kernel
theorem dX1_count_47 : decode cX1_count 47 = .ok (.invokevirtual 90, 3) := by decide +kernel
theorem dX1_count_50 : decode cX1_count 50 = .ok (.ireturn, 1) := by decide +kernel
theorem dX1_count_51 : decode cX1_count 51 = .ok (.iconst 0, 1) := by decide +kernel
theorem dX1_count_52 : decode cX1_count 52 = .ok (.istore_n 2, 1) := by decide +kernel
theorem dX1_count_53 : decode cX1_count 53 = .ok (.iconst 0, 1) := by decide +kernel
theorem dX1_count_54 : decode cX1_count 54 = .ok (.istore_n 3, 1) := by decide +kernel
theorem dX1_count_55 : decode cX1_count 55 = .ok (.iload_n 3, 1) := by decide +kernel
theorem dX1_count_56 : decode cX1_count 56 = .ok (.aload_n 0, 1) := by decide +kernel
theorem dX1_count_57 : decode cX1_count 57 = .ok (.getfield 42, 3) := by decide +kernel
theorem dX1_count_60 : decode cX1_count 60 = .ok (.if_icmp .ge 65, 3) := by decide +kernel
theorem dX1_count_63 : decode cX1_count 63 = .ok (.iload_n 1, 1) := by decide +kernel
theorem dX1_count_64 : decode cX1_count 64 = .ok (.iconst 2, 1) := by decide +kernel
theorem dX1_count_65 : decode cX1_count 65 = .ok (.if_icmp .ne 13, 3) := by decide +kernel
theorem dX1_count_68 : decode cX1_count 68 = .ok (.iload_n 2, 1) := by decide +kernel
theorem dX1_count_69 : decode cX1_count 69 = .ok (.aload_n 0, 1) := by decide +kernel
theorem dX1_count_70 : decode cX1_count 70 = .ok (.iload_n 3, 1) := by decide +kernel
theorem dX1_count_71 : decode cX1_count 71 = .ok (.invokevirtual 80, 3) := by decide +kernel
theorem dX1_count_74 : decode cX1_count 74 = .ok (.invokestatic 77, 3) := by decide +kernel
theorem dX1_count_77 : decode cX1_count 77 = .ok (.istore_n 2, 1) := by decide +kernel
theorem dX1_count_78 : decode cX1_count 78 = .ok (.iload_n 1, 1) := by decide +kernel
theorem dX1_count_79 : decode cX1_count 79 = .ok (.iconst 1, 1) := by decide +kernel
theorem dX1_count_80 : decode cX1_count 80 = .ok (.if_icmp .eq 6, 3) := by decide +kernel
theorem dX1_count_83 : decode cX1_count 83 = .ok (.goto 36, 3) := by decide +kernel
theorem dX1_count_86 : decode cX1_count 86 = .ok (.aload_n 0, 1) := by decide +kernel
theorem dX1_count_87 : decode cX1_count 87 = .ok (.iload_n 3, 1) := by decide +kernel
theorem dX1_count_88 : decode cX1_count 88 = .ok (.invokevirtual 73, 3) := by decide +kernel
theorem dX1_count_91 : decode cX1_count 91 = .ok (.iconst 0, 1) := by decide +kernel
theorem dX1_count_92 : decode cX1_count 92 = .ok (.istore 4, 2) := by decide +kernel
theorem dX1_count_94 : decode cX1_count 94 = .ok (.iload 4, 2) := by decide +kernel
theorem dX1_count_96 : decode cX1_count 96 = .ok (.iload_n 3, 1) := by decide +kernel
theorem dX1_count_97 : decode cX1_count 97 = .ok (.if_icmp .ge 22, 3) := by decide +kernel
theorem dX1_count_100 : decode cX1_count 100 = .ok (.aload_n 0, 1) := by decide +kernel
theorem dX1_count_101 : decode cX1_count 101 = .ok (.getfield 29, 3) := by decide +kernel
theorem dX1_count_104 : decode cX1_count 104 = .ok (.iload 4, 2) := by decide +kernel
theorem dX1_count_106 : decode cX1_count 106 = .ok (.baload, 1) := by decide +kernel
theorem dX1_count_107 : decode cX1_count 107 = .ok (.ifCond .ne 6, 3) := by decide +kernel
theorem dX1_count_110 : decode cX1_count 110 = .ok (.iinc 2 1, 3) := by decide +kernel
theorem dX1_count_113 : decode cX1_count 113 = .ok (.iinc 4 1, 3) := by decide +kernel
theorem dX1_count_116 : decode cX1_count 116 = .ok (.goto (-22), 3) := by decide +kernel
theorem dX1_count_119 : decode cX1_count 119 = .ok (.iinc 3 1, 3) := by decide +kernel
theorem dX1_count_122 : decode cX1_count 122 = .ok (.goto (-67), 3) := by decide +kernel
theorem dX1_count_125 : decode cX1_count 125 = .ok (.iload_n 2, 1) := by decide +kernel
theorem dX1_count_126 : decode cX1_count 126 = .ok (.ireturn, 1) := by decide +kernel
