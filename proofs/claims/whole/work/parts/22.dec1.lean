theorem dX1_init_0 : decode cX1_init 0 = .ok (.aload_n 0, 1) := by decide +kernel
theorem dX1_init_1 : decode cX1_init 1 = .ok (.invokespecial 1, 3) := by decide +kernel
theorem dX1_init_4 : decode cX1_init 4 = .ok (.aload_n 0, 1) := by decide +kernel
theorem dX1_init_5 : decode cX1_init 5 = .ok (.new 7, 3) := by decide +kernel
theorem dX1_init_8 : decode cX1_init 8 = .ok (.dup, 1) := by decide +kernel
theorem dX1_init_9 : decode cX1_init 9 = .ok (.invokespecial 9, 3) := by decide +kernel
theorem dX1_init_12 : decode cX1_init 12 = .ok (.putfield 10, 3) := by decide +kernel
theorem dX1_init_15 : decode cX1_init 15 = .ok (.aload_n 0, 1) := by decide +kernel
theorem dX1_init_16 : decode cX1_init 16 = .ok (.new 16, 3) := by decide +kernel
theorem dX1_init_19 : decode cX1_init 19 = .ok (.dup, 1) := by decide +kernel
theorem dX1_init_20 : decode cX1_init 20 = .ok (.invokespecial 18, 3) := by decide +kernel
theorem dX1_init_23 : decode cX1_init 23 = .ok (.putfield 19, 3) := by decide +kernel
theorem dX1_init_26 : decode cX1_init 26 = .ok (.aload_n 0, 1) := by decide +kernel
theorem dX1_init_27 : decode cX1_init 27 = .ok (.iconst 1, 1) := by decide +kernel
theorem dX1_init_28 : decode cX1_init 28 = .ok (.putfield 23, 3) := by decide +kernel
theorem dX1_init_31 : decode cX1_init 31 = .ok (.return_, 1) := by decide +kernel
theorem dX1_count_0 : decode cX1_count 0 = .ok (.aload_n 0, 1) := by decide +kernel
theorem dX1_count_1 : decode cX1_count 1 = .ok (.getfield 10, 3) := by decide +kernel
theorem dX1_count_4 : decode cX1_count 4 = .ok (.invokevirtual 27, 3) := by decide +kernel
theorem dX1_count_7 : decode cX1_count 7 = .ok (.ireturn, 1) := by decide +kernel
theorem dX1_knows_0 : decode cX1_knows 0 = .ok (.iload_n 1, 1) := by decide +kernel
theorem dX1_knows_1 : decode cX1_knows 1 = .ok (.iconst 1, 1) := by decide +kernel
theorem dX1_knows_2 : decode cX1_knows 2 = .ok (.if_icmp .lt 18, 3) := by decide +kernel
theorem dX1_knows_5 : decode cX1_knows 5 = .ok (.iload_n 1, 1) := by decide +kernel
theorem dX1_knows_6 : decode cX1_knows 6 = .ok (.aload_n 0, 1) := by decide +kernel
theorem dX1_knows_7 : decode cX1_knows 7 = .ok (.getfield 10, 3) := by decide +kernel
theorem dX1_knows_10 : decode cX1_knows 10 = .ok (.invokevirtual 27, 3) := by decide +kernel
theorem dX1_knows_13 : decode cX1_knows 13 = .ok (.if_icmp .gt 7, 3) := by decide +kernel
theorem dX1_knows_16 : decode cX1_knows 16 = .ok (.iconst 1, 1) := by decide +kernel
theorem dX1_knows_17 : decode cX1_knows 17 = .ok (.goto 4, 3) := by decide +kernel
theorem dX1_knows_20 : decode cX1_knows 20 = .ok (.iconst 0, 1) := by decide +kernel
theorem dX1_knows_21 : decode cX1_knows 21 = .ok (.ireturn, 1) := by decide +kernel
theorem dX1_knowsNumberOf_0 : decode cX1_knowsNumberOf 0 = .ok (.iconst 0, 1) := by decide +kernel
theorem dX1_knowsNumberOf_1 : decode cX1_knowsNumberOf 1 = .ok (.istore_n 2, 1) := by decide +kernel
theorem dX1_knowsNumberOf_2 : decode cX1_knowsNumberOf 2 = .ok (.iload_n 2, 1) := by decide +kernel
theorem dX1_knowsNumberOf_3 : decode cX1_knowsNumberOf 3 = .ok (.aload_n 0, 1) := by decide +kernel
theorem dX1_knowsNumberOf_4 : decode cX1_knowsNumberOf 4 = .ok (.getfield 10, 3) := by decide +kernel
theorem dX1_knowsNumberOf_7 : decode cX1_knowsNumberOf 7 = .ok (.invokevirtual 27, 3) := by decide +kernel
theorem dX1_knowsNumberOf_10 : decode cX1_knowsNumberOf 10 = .ok (.if_icmp .ge 29, 3) := by decide +kernel
theorem dX1_knowsNumberOf_13 : decode cX1_knowsNumberOf 13 = .ok (.aload_n 0, 1) := by decide +kernel
theorem dX1_knowsNumberOf_14 : decode cX1_knowsNumberOf 14 = .ok (.getfield 10, 3) := by decide +kernel
theorem dX1_knowsNumberOf_17 : decode cX1_knowsNumberOf 17 = .ok (.iload_n 2, 1) := by decide +kernel
theorem dX1_knowsNumberOf_18 : decode cX1_knowsNumberOf 18 = .ok (.invokevirtual 31, 3) := by decide +kernel
theorem dX1_knowsNumberOf_21 : decode cX1_knowsNumberOf 21 = .ok (.checkcast 35, 3) := by decide +kernel
theorem dX1_knowsNumberOf_24 : decode cX1_knowsNumberOf 24 = .ok (.aload_n 1, 1) := by decide +kernel
theorem dX1_knowsNumberOf_25 : decode cX1_knowsNumberOf 25 = .ok (.invokevirtual 37, 3) := by decide +kernel
theorem dX1_knowsNumberOf_28 : decode cX1_knowsNumberOf 28 = .ok (.ifCond .eq 5, 3) := by decide +kernel
theorem dX1_knowsNumberOf_31 : decode cX1_knowsNumberOf 31 = .ok (.iconst 1, 1) := by decide +kernel
theorem dX1_knowsNumberOf_32 : decode cX1_knowsNumberOf 32 = .ok (.ireturn, 1) := by decide +kernel
theorem dX1_knowsNumberOf_33 : decode cX1_knowsNumberOf 33 = .ok (.iinc 2 1, 3) := by decide +kernel
theorem dX1_knowsNumberOf_36 : decode cX1_knowsNumberOf 36 = .ok (.goto (-34), 3) := by decide +kernel
theorem dX1_knowsNumberOf_39 : decode cX1_knowsNumberOf 39 = .ok (.iconst 0, 1) := by decide +kernel
theorem dX1_knowsNumberOf_40 : decode cX1_knowsNumberOf 40 = .ok (.ireturn, 1) := by decide +kernel
theorem dX1_bring_0 : decode cX1_bring 0 = .ok (.aload_n 1, 1) := by decide +kernel
theorem dX1_bring_1 : decode cX1_bring 1 = .ok (.aload_n 0, 1) := by decide +kernel
theorem dX1_bring_2 : decode cX1_bring 2 = .ok (.getfield 23, 3) := by decide +kernel
theorem dX1_bring_5 : decode cX1_bring 5 = .ok (.invokevirtual 41, 3) := by decide +kernel
theorem dX1_bring_8 : decode cX1_bring 8 = .ok (.aload_n 0, 1) := by decide +kernel
theorem dX1_bring_9 : decode cX1_bring 9 = .ok (.getfield 10, 3) := by decide +kernel
theorem dX1_bring_12 : decode cX1_bring 12 = .ok (.aload_n 1, 1) := by decide +kernel
theorem dX1_bring_13 : decode cX1_bring 13 = .ok (.invokevirtual 45, 3) := by decide +kernel
theorem dX1_bring_16 : decode cX1_bring 16 = .ok (.pop, 1) := by decide +kernel
theorem dX1_bring_17 : decode cX1_bring 17 = .ok (.aload_n 0, 1) := by decide +kernel
theorem dX1_bring_18 : decode cX1_bring 18 = .ok (.getfield 10, 3) := by decide +kernel
theorem dX1_bring_21 : decode cX1_bring 21 = .ok (.invokevirtual 27, 3) := by decide +kernel
theorem dX1_bring_24 : decode cX1_bring 24 = .ok (.ireturn, 1) := by decide +kernel
theorem dX1_move_0 : decode cX1_move 0 = .ok (.aload_n 0, 1) := by decide +kernel
theorem dX1_move_1 : decode cX1_move 1 = .ok (.getfield 10, 3) := by decide +kernel
theorem dX1_move_4 : decode cX1_move 4 = .ok (.iload_n 1, 1) := by decide +kernel
theorem dX1_move_5 : decode cX1_move 5 = .ok (.iconst 1, 1) := by decide +kernel
theorem dX1_move_6 : decode cX1_move 6 = .ok (.isub, 1) := by decide +kernel
theorem dX1_move_7 : decode cX1_move 7 = .ok (.invokevirtual 31, 3) := by decide +kernel
theorem dX1_move_10 : decode cX1_move 10 = .ok (.checkcast 35, 3) := by decide +kernel
theorem dX1_move_13 : decode cX1_move 13 = .ok (.iload_n 2, 1) := by decide +kernel
theorem dX1_move_14 : decode cX1_move 14 = .ok (.aload_n 0, 1) := by decide +kernel
theorem dX1_move_15 : decode cX1_move 15 = .ok (.getfield 23, 3) := by decide +kernel
theorem dX1_move_18 : decode cX1_move 18 = .ok (.invokevirtual 49, 3) := by decide +kernel
theorem dX1_move_21 : decode cX1_move 21 = .ok (.ifCond .eq 7, 3) := by decide +kernel
theorem dX1_move_24 : decode cX1_move 24 = .ok (.iconst 1, 1) := by decide +kernel
theorem dX1_move_25 : decode cX1_move 25 = .ok (.goto 4, 3) := by decide +kernel
theorem dX1_move_28 : decode cX1_move 28 = .ok (.iconst 0, 1) := by decide +kernel
theorem dX1_move_29 : decode cX1_move 29 = .ok (.ireturn, 1) := by decide +kernel
theorem dX1_turn_0 : decode cX1_turn 0 = .ok (.aload_n 0, 1) := by decide +kernel
theorem dX1_turn_1 : decode cX1_turn 1 = .ok (.getfield 23, 3) := by decide +kernel
theorem dX1_turn_4 : decode cX1_turn 4 = .ok (.iload_n 1, 1) := by decide +kernel
theorem dX1_turn_5 : decode cX1_turn 5 = .ok (.if_icmp .ne 5, 3) := by decide +kernel
theorem dX1_turn_8 : decode cX1_turn 8 = .ok (.iconst 0, 1) := by decide +kernel
theorem dX1_turn_9 : decode cX1_turn 9 = .ok (.ireturn, 1) := by decide +kernel
theorem dX1_turn_10 : decode cX1_turn 10 = .ok (.aload_n 0, 1) := by decide +kernel
theorem dX1_turn_11 : decode cX1_turn 11 = .ok (.iload_n 1, 1) := by decide +kernel
theorem dX1_turn_12 : decode cX1_turn 12 = .ok (.putfield 23, 3) := by decide +kernel
theorem dX1_turn_15 : decode cX1_turn 15 = .ok (.iconst 0, 1) := by decide +kernel
theorem dX1_turn_16 : decode cX1_turn 16 = .ok (.istore_n 2, 1) := by decide +kernel
theorem dX1_turn_17 : decode cX1_turn 17 = .ok (.iload_n 2, 1) := by decide +kernel
theorem dX1_turn_18 : decode cX1_turn 18 = .ok (.aload_n 0, 1) := by decide +kernel
theorem dX1_turn_19 : decode cX1_turn 19 = .ok (.getfield 10, 3) := by decide +kernel
theorem dX1_turn_22 : decode cX1_turn 22 = .ok (.invokevirtual 27, 3) := by decide +kernel
theorem dX1_turn_25 : decode cX1_turn 25 = .ok (.if_icmp .ge 27, 3) := by decide +kernel
theorem dX1_turn_28 : decode cX1_turn 28 = .ok (.aload_n 0, 1) := by decide +kernel
theorem dX1_turn_29 : decode cX1_turn 29 = .ok (.getfield 10, 3) := by decide +kernel
theorem dX1_turn_32 : decode cX1_turn 32 = .ok (.iload_n 2, 1) := by decide +kernel
theorem dX1_turn_33 : decode cX1_turn 33 = .ok (.invokevirtual 31, 3) := by decide +kernel
theorem dX1_turn_36 : decode cX1_turn 36 = .ok (.checkcast 35, 3) := by decide +kernel
theorem dX1_turn_39 : decode cX1_turn 39 = .ok (.aload_n 0, 1) := by decide +kernel
theorem dX1_turn_40 : decode cX1_turn 40 = .ok (.getfield 23, 3) := by decide +kernel
theorem dX1_turn_43 : decode cX1_turn 43 = .ok (.invokevirtual 41, 3) := by decide +kernel
theorem dX1_turn_46 : decode cX1_turn 46 = .ok (.iinc 2 1, 3) := by decide +kernel
theorem dX1_turn_49 : decode cX1_turn 49 = .ok (.goto (-32), 3) := by decide +kernel
theorem dX1_turn_52 : decode cX1_turn 52 = .ok (.iconst 1, 1) := by decide +kernel
theorem dX1_turn_53 : decode cX1_turn 53 = .ok (.ireturn, 1) := by decide +kernel
theorem dX1_stateOf_0 : decode cX1_stateOf 0 = .ok (.aload_n 0, 1) := by decide +kernel
theorem dX1_stateOf_1 : decode cX1_stateOf 1 = .ok (.getfield 10, 3) := by decide +kernel
theorem dX1_stateOf_4 : decode cX1_stateOf 4 = .ok (.iload_n 1, 1) := by decide +kernel
theorem dX1_stateOf_5 : decode cX1_stateOf 5 = .ok (.iconst 1, 1) := by decide +kernel
theorem dX1_stateOf_6 : decode cX1_stateOf 6 = .ok (.isub, 1) := by decide +kernel
theorem dX1_stateOf_7 : decode cX1_stateOf 7 = .ok (.invokevirtual 31, 3) := by decide +kernel
theorem dX1_stateOf_10 : decode cX1_stateOf 10 = .ok (.checkcast 35, 3) := by decide +kernel
theorem dX1_stateOf_13 : decode cX1_stateOf 13 = .ok (.invokevirtual 53, 3) := by decide +kernel
theorem dX1_stateOf_16 : decode cX1_stateOf 16 = .ok (.ireturn, 1) := by decide +kernel
theorem dX1_send_0 : decode cX1_send 0 = .ok (.aload_n 0, 1) := by decide +kernel
theorem dX1_send_1 : decode cX1_send 1 = .ok (.dup, 1) := by decide +kernel
theorem dX1_send_2 : decode cX1_send 2 = .ok (.getfield 56, 3) := by decide +kernel
theorem dX1_send_5 : decode cX1_send 5 = .ok (.iconst 1, 1) := by decide +kernel
theorem dX1_send_6 : decode cX1_send 6 = .ok (.iadd, 1) := by decide +kernel
theorem dX1_send_7 : decode cX1_send 7 = .ok (.putfield 56, 3) := by decide +kernel
theorem dX1_send_10 : decode cX1_send 10 = .ok (.aload_n 2, 1) := by decide +kernel
theorem dX1_send_11 : decode cX1_send 11 = .ok (.invokevirtual 60, 3) := by decide +kernel
theorem dX1_send_14 : decode cX1_send 14 = .ok (.aload_n 0, 1) := by decide +kernel
theorem dX1_send_15 : decode cX1_send 15 = .ok (.getfield 19, 3) := by decide +kernel
theorem dX1_send_18 : decode cX1_send 18 = .ok (.aload_n 1, 1) := by decide +kernel
theorem dX1_send_19 : decode cX1_send 19 = .ok (.invokevirtual 65, 3) := by decide +kernel
theorem dX1_send_22 : decode cX1_send 22 = .ok (.iconst 0, 1) := by decide +kernel
theorem dX1_send_23 : decode cX1_send 23 = .ok (.istore_n 3, 1) := by decide +kernel
theorem dX1_send_24 : decode cX1_send 24 = .ok (.iload_n 3, 1) := by decide +kernel
theorem dX1_send_25 : decode cX1_send 25 = .ok (.aload_n 0, 1) := by decide +kernel
theorem dX1_send_26 : decode cX1_send 26 = .ok (.getfield 10, 3) := by decide +kernel
theorem dX1_send_29 : decode cX1_send 29 = .ok (.invokevirtual 27, 3) := by decide +kernel
theorem dX1_send_32 : decode cX1_send 32 = .ok (.if_icmp .ge 41, 3) := by decide +kernel
theorem dX1_send_35 : decode cX1_send 35 = .ok (.aload_n 0, 1) := by decide +kernel
theorem dX1_send_36 : decode cX1_send 36 = .ok (.getfield 10, 3) := by decide +kernel
theorem dX1_send_39 : decode cX1_send 39 = .ok (.iload_n 3, 1) := by decide +kernel
theorem dX1_send_40 : decode cX1_send 40 = .ok (.invokevirtual 31, 3) := by decide +kernel
theorem dX1_send_43 : decode cX1_send 43 = .ok (.checkcast 35, 3) := by decide +kernel
theorem dX1_send_46 : decode cX1_send 46 = .ok (.astore 4, 2) := by decide +kernel
theorem dX1_send_48 : decode cX1_send 48 = .ok (.aload 4, 2) := by decide +kernel
theorem dX1_send_50 : decode cX1_send 50 = .ok (.aload 4, 2) := by decide +kernel
theorem dX1_send_52 : decode cX1_send 52 = .ok (.aload_n 0, 1) := by decide +kernel
theorem dX1_send_53 : decode cX1_send 53 = .ok (.getfield 19, 3) := by decide +kernel
theorem dX1_send_56 : decode cX1_send 56 = .ok (.invokevirtual 69, 3) := by decide +kernel
theorem dX1_send_59 : decode cX1_send 59 = .ok (.aload_n 0, 1) := by decide +kernel
theorem dX1_send_60 : decode cX1_send 60 = .ok (.getfield 19, 3) := by decide +kernel
theorem dX1_send_63 : decode cX1_send 63 = .ok (.aload_n 2, 1) := by decide +kernel
theorem dX1_send_64 : decode cX1_send 64 = .ok (.invokevirtual 73, 3) := by decide +kernel
theorem dX1_send_67 : decode cX1_send 67 = .ok (.iinc 3 1, 3) := by decide +kernel
theorem dX1_send_70 : decode cX1_send 70 = .ok (.goto (-46), 3) := by decide +kernel
theorem dX1_send_73 : decode cX1_send 73 = .ok (.aload_n 2, 1) := by decide +kernel
theorem dX1_send_74 : decode cX1_send 74 = .ok (.getfield 77, 3) := by decide +kernel
theorem dX1_send_77 : decode cX1_send 77 = .ok (.ireturn, 1) := by decide +kernel
theorem dX2_init_0 : decode cX2_init 0 = .ok (.aload_n 0, 1) := by decide +kernel
theorem dX2_init_1 : decode cX2_init 1 = .ok (.invokespecial 3, 3) := by decide +kernel
theorem dX2_init_4 : decode cX2_init 4 = .ok (.return_, 1) := by decide +kernel
theorem dX2_clear_0 : decode cX2_clear 0 = .ok (.aload_n 0, 1) := by decide +kernel
theorem dX2_clear_1 : decode cX2_clear 1 = .ok (.lconst 0, 1) := by decide +kernel
theorem dX2_clear_2 : decode cX2_clear 2 = .ok (.putfield 9, 3) := by decide +kernel
theorem dX2_clear_5 : decode cX2_clear 5 = .ok (.aload_n 0, 1) := by decide +kernel
theorem dX2_clear_6 : decode cX2_clear 6 = .ok (.lconst 0, 1) := by decide +kernel
theorem dX2_clear_7 : decode cX2_clear 7 = .ok (.putfield 15, 3) := by decide +kernel
theorem dX2_clear_10 : decode cX2_clear 10 = .ok (.aload_n 0, 1) := by decide +kernel
theorem dX2_clear_11 : decode cX2_clear 11 = .ok (.iconst 0, 1) := by decide +kernel
theorem dX2_clear_12 : decode cX2_clear 12 = .ok (.putfield 18, 3) := by decide +kernel
theorem dX2_clear_15 : decode cX2_clear 15 = .ok (.return_, 1) := by decide +kernel
theorem dX2_lay_0 : decode cX2_lay 0 = .ok (.lconst 1, 1) := by decide +kernel
theorem dX2_lay_1 : decode cX2_lay 1 = .ok (.iload_n 3, 1) := by decide +kernel
theorem dX2_lay_2 : decode cX2_lay 2 = .ok (.lshl, 1) := by decide +kernel
theorem dX2_lay_3 : decode cX2_lay 3 = .ok (.lconst 1, 1) := by decide +kernel
theorem dX2_lay_4 : decode cX2_lay 4 = .ok (.lsub, 1) := by decide +kernel
theorem dX2_lay_5 : decode cX2_lay 5 = .ok (.lstore 4, 2) := by decide +kernel
theorem dX2_lay_7 : decode cX2_lay 7 = .ok (.aload_n 0, 1) := by decide +kernel
theorem dX2_lay_8 : decode cX2_lay 8 = .ok (.dup, 1) := by decide +kernel
theorem dX2_lay_9 : decode cX2_lay 9 = .ok (.getfield 9, 3) := by decide +kernel
theorem dX2_lay_12 : decode cX2_lay 12 = .ok (.lload_n 1, 1) := by decide +kernel
theorem dX2_lay_13 : decode cX2_lay 13 = .ok (.lload 4, 2) := by decide +kernel
theorem dX2_lay_15 : decode cX2_lay 15 = .ok (.land, 1) := by decide +kernel
theorem dX2_lay_16 : decode cX2_lay 16 = .ok (.lor, 1) := by decide +kernel
theorem dX2_lay_17 : decode cX2_lay 17 = .ok (.putfield 9, 3) := by decide +kernel
theorem dX2_lay_20 : decode cX2_lay 20 = .ok (.aload_n 0, 1) := by decide +kernel
theorem dX2_lay_21 : decode cX2_lay 21 = .ok (.dup, 1) := by decide +kernel
theorem dX2_lay_22 : decode cX2_lay 22 = .ok (.getfield 15, 3) := by decide +kernel
theorem dX2_lay_25 : decode cX2_lay 25 = .ok (.lload_n 1, 1) := by decide +kernel
theorem dX2_lay_26 : decode cX2_lay 26 = .ok (.ldc2_w 22, 3) := by decide +kernel
theorem dX2_lay_29 : decode cX2_lay 29 = .ok (.lxor, 1) := by decide +kernel
theorem dX2_lay_30 : decode cX2_lay 30 = .ok (.lload 4, 2) := by decide +kernel
theorem dX2_lay_32 : decode cX2_lay 32 = .ok (.land, 1) := by decide +kernel
theorem dX2_lay_33 : decode cX2_lay 33 = .ok (.lor, 1) := by decide +kernel
theorem dX2_lay_34 : decode cX2_lay 34 = .ok (.putfield 15, 3) := by decide +kernel
theorem dX2_lay_37 : decode cX2_lay 37 = .ok (.aload_n 0, 1) := by decide +kernel
theorem dX2_lay_38 : decode cX2_lay 38 = .ok (.aload_n 0, 1) := by decide +kernel
theorem dX2_lay_39 : decode cX2_lay 39 = .ok (.getfield 18, 3) := by decide +kernel
theorem dX2_lay_42 : decode cX2_lay 42 = .ok (.iload_n 3, 1) := by decide +kernel
theorem dX2_lay_43 : decode cX2_lay 43 = .ok (.invokestatic 24, 3) := by decide +kernel
theorem dX2_lay_46 : decode cX2_lay 46 = .ok (.putfield 18, 3) := by decide +kernel
theorem dX2_lay_49 : decode cX2_lay 49 = .ok (.return_, 1) := by decide +kernel
theorem dX2_bitAt_0 : decode cX2_bitAt 0 = .ok (.iload_n 1, 1) := by decide +kernel
theorem dX2_bitAt_1 : decode cX2_bitAt 1 = .ok (.ifCond .lt 11, 3) := by decide +kernel
theorem dX2_bitAt_4 : decode cX2_bitAt 4 = .ok (.iload_n 1, 1) := by decide +kernel
theorem dX2_bitAt_5 : decode cX2_bitAt 5 = .ok (.aload_n 0, 1) := by decide +kernel
theorem dX2_bitAt_6 : decode cX2_bitAt 6 = .ok (.getfield 18, 3) := by decide +kernel
theorem dX2_bitAt_9 : decode cX2_bitAt 9 = .ok (.if_icmp .lt 5, 3) := by decide +kernel
theorem dX2_bitAt_12 : decode cX2_bitAt 12 = .ok (.iconst (-1), 1) := by decide +kernel
theorem dX2_bitAt_13 : decode cX2_bitAt 13 = .ok (.ireturn, 1) := by decide +kernel
theorem dX2_bitAt_14 : decode cX2_bitAt 14 = .ok (.aload_n 0, 1) := by decide +kernel
theorem dX2_bitAt_15 : decode cX2_bitAt 15 = .ok (.getfield 9, 3) := by decide +kernel
theorem dX2_bitAt_18 : decode cX2_bitAt 18 = .ok (.iload_n 1, 1) := by decide +kernel
theorem dX2_bitAt_19 : decode cX2_bitAt 19 = .ok (.lushr, 1) := by decide +kernel
theorem dX2_bitAt_20 : decode cX2_bitAt 20 = .ok (.lconst 1, 1) := by decide +kernel
theorem dX2_bitAt_21 : decode cX2_bitAt 21 = .ok (.land, 1) := by decide +kernel
theorem dX2_bitAt_22 : decode cX2_bitAt 22 = .ok (.lconst 1, 1) := by decide +kernel
theorem dX2_bitAt_23 : decode cX2_bitAt 23 = .ok (.lcmp, 1) := by decide +kernel
theorem dX2_bitAt_24 : decode cX2_bitAt 24 = .ok (.ifCond .ne 7, 3) := by decide +kernel
theorem dX2_bitAt_27 : decode cX2_bitAt 27 = .ok (.iconst 1, 1) := by decide +kernel
theorem dX2_bitAt_28 : decode cX2_bitAt 28 = .ok (.goto 4, 3) := by decide +kernel
theorem dX2_bitAt_31 : decode cX2_bitAt 31 = .ok (.iconst 0, 1) := by decide +kernel
theorem dX2_bitAt_32 : decode cX2_bitAt 32 = .ok (.istore_n 2, 1) := by decide +kernel
theorem dX2_bitAt_33 : decode cX2_bitAt 33 = .ok (.aload_n 0, 1) := by decide +kernel
theorem dX2_bitAt_34 : decode cX2_bitAt 34 = .ok (.getfield 15, 3) := by decide +kernel
theorem dX2_bitAt_37 : decode cX2_bitAt 37 = .ok (.iload_n 1, 1) := by decide +kernel
theorem dX2_bitAt_38 : decode cX2_bitAt 38 = .ok (.lushr, 1) := by decide +kernel
theorem dX2_bitAt_39 : decode cX2_bitAt 39 = .ok (.lconst 1, 1) := by decide +kernel
theorem dX2_bitAt_40 : decode cX2_bitAt 40 = .ok (.land, 1) := by decide +kernel
theorem dX2_bitAt_41 : decode cX2_bitAt 41 = .ok (.lconst 1, 1) := by decide +kernel
theorem dX2_bitAt_42 : decode cX2_bitAt 42 = .ok (.lcmp, 1) := by decide +kernel
theorem dX2_bitAt_43 : decode cX2_bitAt 43 = .ok (.ifCond .ne 7, 3) := by decide +kernel
theorem dX2_bitAt_46 : decode cX2_bitAt 46 = .ok (.iconst 1, 1) := by decide +kernel
theorem dX2_bitAt_47 : decode cX2_bitAt 47 = .ok (.goto 4, 3) := by decide +kernel
theorem dX2_bitAt_50 : decode cX2_bitAt 50 = .ok (.iconst 0, 1) := by decide +kernel
theorem dX2_bitAt_51 : decode cX2_bitAt 51 = .ok (.istore_n 3, 1) := by decide +kernel
theorem dX2_bitAt_52 : decode cX2_bitAt 52 = .ok (.iload_n 2, 1) := by decide +kernel
theorem dX2_bitAt_53 : decode cX2_bitAt 53 = .ok (.ifCond .eq 9, 3) := by decide +kernel
theorem dX2_bitAt_56 : decode cX2_bitAt 56 = .ok (.iload_n 3, 1) := by decide +kernel
theorem dX2_bitAt_57 : decode cX2_bitAt 57 = .ok (.ifCond .eq 5, 3) := by decide +kernel
theorem dX2_bitAt_60 : decode cX2_bitAt 60 = .ok (.iconst 2, 1) := by decide +kernel
theorem dX2_bitAt_61 : decode cX2_bitAt 61 = .ok (.ireturn, 1) := by decide +kernel
theorem dX2_bitAt_62 : decode cX2_bitAt 62 = .ok (.iload_n 2, 1) := by decide +kernel
theorem dX2_bitAt_63 : decode cX2_bitAt 63 = .ok (.ifCond .eq 7, 3) := by decide +kernel
theorem dX2_bitAt_66 : decode cX2_bitAt 66 = .ok (.iconst 1, 1) := by decide +kernel
theorem dX2_bitAt_67 : decode cX2_bitAt 67 = .ok (.goto 4, 3) := by decide +kernel
theorem dX2_bitAt_70 : decode cX2_bitAt 70 = .ok (.iconst 0, 1) := by decide +kernel
theorem dX2_bitAt_71 : decode cX2_bitAt 71 = .ok (.ireturn, 1) := by decide +kernel
theorem dX2_beginsWith_0 : decode cX2_beginsWith 0 = .ok (.aload_n 0, 1) := by decide +kernel
theorem dX2_beginsWith_1 : decode cX2_beginsWith 1 = .ok (.getfield 9, 3) := by decide +kernel
theorem dX2_beginsWith_4 : decode cX2_beginsWith 4 = .ok (.ldc2_w 30, 3) := by decide +kernel
theorem dX2_beginsWith_7 : decode cX2_beginsWith 7 = .ok (.land, 1) := by decide +kernel
theorem dX2_beginsWith_8 : decode cX2_beginsWith 8 = .ok (.iload_n 1, 1) := by decide +kernel
theorem dX2_beginsWith_9 : decode cX2_beginsWith 9 = .ok (.i2l, 1) := by decide +kernel
theorem dX2_beginsWith_10 : decode cX2_beginsWith 10 = .ok (.lcmp, 1) := by decide +kernel
theorem dX2_beginsWith_11 : decode cX2_beginsWith 11 = .ok (.ifCond .ne 25, 3) := by decide +kernel
theorem dX2_beginsWith_14 : decode cX2_beginsWith 14 = .ok (.aload_n 0, 1) := by decide +kernel
theorem dX2_beginsWith_15 : decode cX2_beginsWith 15 = .ok (.getfield 15, 3) := by decide +kernel
theorem dX2_beginsWith_18 : decode cX2_beginsWith 18 = .ok (.ldc2_w 30, 3) := by decide +kernel
theorem dX2_beginsWith_21 : decode cX2_beginsWith 21 = .ok (.land, 1) := by decide +kernel
theorem dX2_beginsWith_22 : decode cX2_beginsWith 22 = .ok (.iload_n 1, 1) := by decide +kernel
theorem dX2_beginsWith_23 : decode cX2_beginsWith 23 = .ok (.sipush 255, 3) := by decide +kernel
theorem dX2_beginsWith_26 : decode cX2_beginsWith 26 = .ok (.ixor, 1) := by decide +kernel
theorem dX2_beginsWith_27 : decode cX2_beginsWith 27 = .ok (.i2l, 1) := by decide +kernel
theorem dX2_beginsWith_28 : decode cX2_beginsWith 28 = .ok (.lcmp, 1) := by decide +kernel
theorem dX2_beginsWith_29 : decode cX2_beginsWith 29 = .ok (.ifCond .ne 7, 3) := by decide +kernel
theorem dX2_beginsWith_32 : decode cX2_beginsWith 32 = .ok (.iconst 1, 1) := by decide +kernel
theorem dX2_beginsWith_33 : decode cX2_beginsWith 33 = .ok (.goto 4, 3) := by decide +kernel
theorem dX2_beginsWith_36 : decode cX2_beginsWith 36 = .ok (.iconst 0, 1) := by decide +kernel
theorem dX2_beginsWith_37 : decode cX2_beginsWith 37 = .ok (.ireturn, 1) := by decide +kernel
theorem dX3_octetsOf_0 : decode cX3_octetsOf 0 = .ok (.lconst 0, 1) := by decide +kernel
theorem dX3_octetsOf_1 : decode cX3_octetsOf 1 = .ok (.lstore_n 3, 1) := by decide +kernel
theorem dX3_octetsOf_2 : decode cX3_octetsOf 2 = .ok (.iconst 0, 1) := by decide +kernel
theorem dX3_octetsOf_3 : decode cX3_octetsOf 3 = .ok (.istore 5, 2) := by decide +kernel
theorem dX3_octetsOf_5 : decode cX3_octetsOf 5 = .ok (.iload 5, 2) := by decide +kernel
theorem dX3_octetsOf_7 : decode cX3_octetsOf 7 = .ok (.iload_n 2, 1) := by decide +kernel
theorem dX3_octetsOf_8 : decode cX3_octetsOf 8 = .ok (.if_icmp .ge 51, 3) := by decide +kernel
theorem dX3_octetsOf_11 : decode cX3_octetsOf 11 = .ok (.lload_n 0, 1) := by decide +kernel
theorem dX3_octetsOf_12 : decode cX3_octetsOf 12 = .ok (.bipush 8, 2) := by decide +kernel
theorem dX3_octetsOf_14 : decode cX3_octetsOf 14 = .ok (.iload 5, 2) := by decide +kernel
theorem dX3_octetsOf_16 : decode cX3_octetsOf 16 = .ok (.imul, 1) := by decide +kernel
theorem dX3_octetsOf_17 : decode cX3_octetsOf 17 = .ok (.lushr, 1) := by decide +kernel
theorem dX3_octetsOf_18 : decode cX3_octetsOf 18 = .ok (.ldc2_w 9, 3) := by decide +kernel
theorem dX3_octetsOf_21 : decode cX3_octetsOf 21 = .ok (.land, 1) := by decide +kernel
theorem dX3_octetsOf_22 : decode cX3_octetsOf 22 = .ok (.lstore 6, 2) := by decide +kernel
theorem dX3_octetsOf_24 : decode cX3_octetsOf 24 = .ok (.iconst 1, 1) := by decide +kernel
theorem dX3_octetsOf_25 : decode cX3_octetsOf 25 = .ok (.lload 6, 2) := by decide +kernel
theorem dX3_octetsOf_27 : decode cX3_octetsOf 27 = .ok (.invokestatic 11, 3) := by decide +kernel
theorem dX3_octetsOf_30 : decode cX3_octetsOf 30 = .ok (.iconst 2, 1) := by decide +kernel
theorem dX3_octetsOf_31 : decode cX3_octetsOf 31 = .ok (.irem, 1) := by decide +kernel
theorem dX3_octetsOf_32 : decode cX3_octetsOf 32 = .ok (.isub, 1) := by decide +kernel
theorem dX3_octetsOf_33 : decode cX3_octetsOf 33 = .ok (.i2l, 1) := by decide +kernel
theorem dX3_octetsOf_34 : decode cX3_octetsOf 34 = .ok (.lstore 8, 2) := by decide +kernel
theorem dX3_octetsOf_36 : decode cX3_octetsOf 36 = .ok (.lload_n 3, 1) := by decide +kernel
theorem dX3_octetsOf_37 : decode cX3_octetsOf 37 = .ok (.lload 6, 2) := by decide +kernel
theorem dX3_octetsOf_39 : decode cX3_octetsOf 39 = .ok (.lload 8, 2) := by decide +kernel
theorem dX3_octetsOf_41 : decode cX3_octetsOf 41 = .ok (.bipush 8, 2) := by decide +kernel
theorem dX3_octetsOf_43 : decode cX3_octetsOf 43 = .ok (.lshl, 1) := by decide +kernel
theorem dX3_octetsOf_44 : decode cX3_octetsOf 44 = .ok (.lor, 1) := by decide +kernel
theorem dX3_octetsOf_45 : decode cX3_octetsOf 45 = .ok (.bipush 9, 2) := by decide +kernel
theorem dX3_octetsOf_47 : decode cX3_octetsOf 47 = .ok (.iload 5, 2) := by decide +kernel
theorem dX3_octetsOf_49 : decode cX3_octetsOf 49 = .ok (.imul, 1) := by decide +kernel
theorem dX3_octetsOf_50 : decode cX3_octetsOf 50 = .ok (.lshl, 1) := by decide +kernel
theorem dX3_octetsOf_51 : decode cX3_octetsOf 51 = .ok (.lor, 1) := by decide +kernel
theorem dX3_octetsOf_52 : decode cX3_octetsOf 52 = .ok (.lstore_n 3, 1) := by decide +kernel
theorem dX3_octetsOf_53 : decode cX3_octetsOf 53 = .ok (.iinc 5 1, 3) := by decide +kernel
theorem dX3_octetsOf_56 : decode cX3_octetsOf 56 = .ok (.goto (-51), 3) := by decide +kernel
theorem dX3_octetsOf_59 : decode cX3_octetsOf 59 = .ok (.lload_n 3, 1) := by decide +kernel
theorem dX3_octetsOf_60 : decode cX3_octetsOf 60 = .ok (.lreturn, 1) := by decide +kernel
theorem dX3_checkStep_0 : decode cX3_checkStep 0 = .ok (.iload_n 1, 1) := by decide +kernel
theorem dX3_checkStep_1 : decode cX3_checkStep 1 = .ok (.iload_n 0, 1) := by decide +kernel
theorem dX3_checkStep_2 : decode cX3_checkStep 2 = .ok (.sipush 255, 3) := by decide +kernel
theorem dX3_checkStep_5 : decode cX3_checkStep 5 = .ok (.iand, 1) := by decide +kernel
theorem dX3_checkStep_6 : decode cX3_checkStep 6 = .ok (.ixor, 1) := by decide +kernel
theorem dX3_checkStep_7 : decode cX3_checkStep 7 = .ok (.istore_n 2, 1) := by decide +kernel
theorem dX3_checkStep_8 : decode cX3_checkStep 8 = .ok (.iload_n 2, 1) := by decide +kernel
theorem dX3_checkStep_9 : decode cX3_checkStep 9 = .ok (.iload_n 2, 1) := by decide +kernel
theorem dX3_checkStep_10 : decode cX3_checkStep 10 = .ok (.iconst 4, 1) := by decide +kernel
theorem dX3_checkStep_11 : decode cX3_checkStep 11 = .ok (.ishl, 1) := by decide +kernel
theorem dX3_checkStep_12 : decode cX3_checkStep 12 = .ok (.ixor, 1) := by decide +kernel
theorem dX3_checkStep_13 : decode cX3_checkStep 13 = .ok (.sipush 255, 3) := by decide +kernel
theorem dX3_checkStep_16 : decode cX3_checkStep 16 = .ok (.iand, 1) := by decide +kernel
theorem dX3_checkStep_17 : decode cX3_checkStep 17 = .ok (.istore_n 2, 1) := by decide +kernel
theorem dX3_checkStep_18 : decode cX3_checkStep 18 = .ok (.iload_n 0, 1) := by decide +kernel
theorem dX3_checkStep_19 : decode cX3_checkStep 19 = .ok (.bipush 8, 2) := by decide +kernel
theorem dX3_checkStep_21 : decode cX3_checkStep 21 = .ok (.iushr, 1) := by decide +kernel
theorem dX3_checkStep_22 : decode cX3_checkStep 22 = .ok (.iload_n 2, 1) := by decide +kernel
theorem dX3_checkStep_23 : decode cX3_checkStep 23 = .ok (.bipush 8, 2) := by decide +kernel
theorem dX3_checkStep_25 : decode cX3_checkStep 25 = .ok (.ishl, 1) := by decide +kernel
theorem dX3_checkStep_26 : decode cX3_checkStep 26 = .ok (.ixor, 1) := by decide +kernel
theorem dX3_checkStep_27 : decode cX3_checkStep 27 = .ok (.iload_n 2, 1) := by decide +kernel
theorem dX3_checkStep_28 : decode cX3_checkStep 28 = .ok (.iconst 3, 1) := by decide +kernel
theorem dX3_checkStep_29 : decode cX3_checkStep 29 = .ok (.ishl, 1) := by decide +kernel
theorem dX3_checkStep_30 : decode cX3_checkStep 30 = .ok (.ixor, 1) := by decide +kernel
theorem dX3_checkStep_31 : decode cX3_checkStep 31 = .ok (.iload_n 2, 1) := by decide +kernel
theorem dX3_checkStep_32 : decode cX3_checkStep 32 = .ok (.iconst 4, 1) := by decide +kernel
theorem dX3_checkStep_33 : decode cX3_checkStep 33 = .ok (.iushr, 1) := by decide +kernel
theorem dX3_checkStep_34 : decode cX3_checkStep 34 = .ok (.ixor, 1) := by decide +kernel
theorem dX3_checkStep_35 : decode cX3_checkStep 35 = .ok (.ldc 17, 2) := by decide +kernel
theorem dX3_checkStep_37 : decode cX3_checkStep 37 = .ok (.iand, 1) := by decide +kernel
theorem dX3_checkStep_38 : decode cX3_checkStep 38 = .ok (.ireturn, 1) := by decide +kernel
theorem dX3_checkedOctetsOf_0 : decode cX3_checkedOctetsOf 0 = .ok (.sipush 25443, 3) := by decide +kernel
theorem dX3_checkedOctetsOf_3 : decode cX3_checkedOctetsOf 3 = .ok (.istore_n 3, 1) := by decide +kernel
theorem dX3_checkedOctetsOf_4 : decode cX3_checkedOctetsOf 4 = .ok (.iconst 0, 1) := by decide +kernel
theorem dX3_checkedOctetsOf_5 : decode cX3_checkedOctetsOf 5 = .ok (.istore 4, 2) := by decide +kernel
theorem dX3_checkedOctetsOf_7 : decode cX3_checkedOctetsOf 7 = .ok (.iload 4, 2) := by decide +kernel
theorem dX3_checkedOctetsOf_9 : decode cX3_checkedOctetsOf 9 = .ok (.iload_n 2, 1) := by decide +kernel
theorem dX3_checkedOctetsOf_10 : decode cX3_checkedOctetsOf 10 = .ok (.if_icmp .ge 26, 3) := by decide +kernel
theorem dX3_checkedOctetsOf_13 : decode cX3_checkedOctetsOf 13 = .ok (.iload_n 3, 1) := by decide +kernel
theorem dX3_checkedOctetsOf_14 : decode cX3_checkedOctetsOf 14 = .ok (.lload_n 0, 1) := by decide +kernel
theorem dX3_checkedOctetsOf_15 : decode cX3_checkedOctetsOf 15 = .ok (.bipush 8, 2) := by decide +kernel
theorem dX3_checkedOctetsOf_17 : decode cX3_checkedOctetsOf 17 = .ok (.iload 4, 2) := by decide +kernel
theorem dX3_checkedOctetsOf_19 : decode cX3_checkedOctetsOf 19 = .ok (.imul, 1) := by decide +kernel
theorem dX3_checkedOctetsOf_20 : decode cX3_checkedOctetsOf 20 = .ok (.lushr, 1) := by decide +kernel
theorem dX3_checkedOctetsOf_21 : decode cX3_checkedOctetsOf 21 = .ok (.l2i, 1) := by decide +kernel
theorem dX3_checkedOctetsOf_22 : decode cX3_checkedOctetsOf 22 = .ok (.sipush 255, 3) := by decide +kernel
theorem dX3_checkedOctetsOf_25 : decode cX3_checkedOctetsOf 25 = .ok (.iand, 1) := by decide +kernel
theorem dX3_checkedOctetsOf_26 : decode cX3_checkedOctetsOf 26 = .ok (.invokestatic 20, 3) := by decide +kernel
theorem dX3_checkedOctetsOf_29 : decode cX3_checkedOctetsOf 29 = .ok (.istore_n 3, 1) := by decide +kernel
theorem dX3_checkedOctetsOf_30 : decode cX3_checkedOctetsOf 30 = .ok (.iinc 4 1, 3) := by decide +kernel
theorem dX3_checkedOctetsOf_33 : decode cX3_checkedOctetsOf 33 = .ok (.goto (-26), 3) := by decide +kernel
theorem dX3_checkedOctetsOf_36 : decode cX3_checkedOctetsOf 36 = .ok (.lload_n 0, 1) := by decide +kernel
theorem dX3_checkedOctetsOf_37 : decode cX3_checkedOctetsOf 37 = .ok (.iload_n 3, 1) := by decide +kernel
theorem dX3_checkedOctetsOf_38 : decode cX3_checkedOctetsOf 38 = .ok (.i2l, 1) := by decide +kernel
theorem dX3_checkedOctetsOf_39 : decode cX3_checkedOctetsOf 39 = .ok (.bipush 8, 2) := by decide +kernel
theorem dX3_checkedOctetsOf_41 : decode cX3_checkedOctetsOf 41 = .ok (.iload_n 2, 1) := by decide +kernel
theorem dX3_checkedOctetsOf_42 : decode cX3_checkedOctetsOf 42 = .ok (.imul, 1) := by decide +kernel
theorem dX3_checkedOctetsOf_43 : decode cX3_checkedOctetsOf 43 = .ok (.lshl, 1) := by decide +kernel
theorem dX3_checkedOctetsOf_44 : decode cX3_checkedOctetsOf 44 = .ok (.lor, 1) := by decide +kernel
theorem dX3_checkedOctetsOf_45 : decode cX3_checkedOctetsOf 45 = .ok (.iload_n 2, 1) := by decide +kernel
theorem dX3_checkedOctetsOf_46 : decode cX3_checkedOctetsOf 46 = .ok (.iconst 2, 1) := by decide +kernel
theorem dX3_checkedOctetsOf_47 : decode cX3_checkedOctetsOf 47 = .ok (.iadd, 1) := by decide +kernel
theorem dX3_checkedOctetsOf_48 : decode cX3_checkedOctetsOf 48 = .ok (.invokestatic 24, 3) := by decide +kernel
theorem dX3_checkedOctetsOf_51 : decode cX3_checkedOctetsOf 51 = .ok (.lreturn, 1) := by decide +kernel
theorem dX4_init_0 : decode cX4_init 0 = .ok (.aload_n 0, 1) := by decide +kernel
theorem dX4_init_1 : decode cX4_init 1 = .ok (.invokespecial 3, 3) := by decide +kernel
theorem dX4_init_4 : decode cX4_init 4 = .ok (.aload_n 0, 1) := by decide +kernel
theorem dX4_init_5 : decode cX4_init 5 = .ok (.getstatic 9, 3) := by decide +kernel
theorem dX4_init_8 : decode cX4_init 8 = .ok (.putfield 15, 3) := by decide +kernel
theorem dX4_init_11 : decode cX4_init 11 = .ok (.return_, 1) := by decide +kernel
theorem dX4_read_0 : decode cX4_read 0 = .ok (.aload_n 1, 1) := by decide +kernel
theorem dX4_read_1 : decode cX4_read 1 = .ok (.getfield 20, 3) := by decide +kernel
theorem dX4_read_4 : decode cX4_read 4 = .ok (.bipush 9, 2) := by decide +kernel
theorem dX4_read_6 : decode cX4_read 6 = .ok (.idiv, 1) := by decide +kernel
theorem dX4_read_7 : decode cX4_read 7 = .ok (.istore_n 2, 1) := by decide +kernel
theorem dX4_read_8 : decode cX4_read 8 = .ok (.aload_n 1, 1) := by decide +kernel
theorem dX4_read_9 : decode cX4_read 9 = .ok (.getfield 20, 3) := by decide +kernel
theorem dX4_read_12 : decode cX4_read 12 = .ok (.bipush 9, 2) := by decide +kernel
theorem dX4_read_14 : decode cX4_read 14 = .ok (.irem, 1) := by decide +kernel
theorem dX4_read_15 : decode cX4_read 15 = .ok (.istore_n 3, 1) := by decide +kernel
theorem dX4_read_16 : decode cX4_read 16 = .ok (.aload_n 1, 1) := by decide +kernel
theorem dX4_read_17 : decode cX4_read 17 = .ok (.iconst 0, 1) := by decide +kernel
theorem dX4_read_18 : decode cX4_read 18 = .ok (.bipush 8, 2) := by decide +kernel
theorem dX4_read_20 : decode cX4_read 20 = .ok (.invokevirtual 26, 3) := by decide +kernel
theorem dX4_read_23 : decode cX4_read 23 = .ok (.istore 4, 2) := by decide +kernel
theorem dX4_read_25 : decode cX4_read 25 = .ok (.aload_n 0, 1) := by decide +kernel
theorem dX4_read_26 : decode cX4_read 26 = .ok (.aload_n 1, 1) := by decide +kernel
theorem dX4_read_27 : decode cX4_read 27 = .ok (.bipush 9, 2) := by decide +kernel
theorem dX4_read_29 : decode cX4_read 29 = .ok (.bipush 8, 2) := by decide +kernel
theorem dX4_read_31 : decode cX4_read 31 = .ok (.invokevirtual 26, 3) := by decide +kernel
theorem dX4_read_34 : decode cX4_read 34 = .ok (.putfield 30, 3) := by decide +kernel
theorem dX4_read_37 : decode cX4_read 37 = .ok (.aload_n 0, 1) := by decide +kernel
theorem dX4_read_38 : decode cX4_read 38 = .ok (.iload 4, 2) := by decide +kernel
theorem dX4_read_40 : decode cX4_read 40 = .ok (.invokestatic 33, 3) := by decide +kernel
theorem dX4_read_43 : decode cX4_read 43 = .ok (.putfield 37, 3) := by decide +kernel
theorem dX4_read_46 : decode cX4_read 46 = .ok (.aload_n 1, 1) := by decide +kernel
theorem dX4_read_47 : decode cX4_read 47 = .ok (.getfield 20, 3) := by decide +kernel
theorem dX4_read_50 : decode cX4_read 50 = .ok (.bipush 7, 2) := by decide +kernel
theorem dX4_read_52 : decode cX4_read 52 = .ok (.if_icmp .ne 15, 3) := by decide +kernel
theorem dX4_read_55 : decode cX4_read 55 = .ok (.aload_n 0, 1) := by decide +kernel
theorem dX4_read_56 : decode cX4_read 56 = .ok (.iload 4, 2) := by decide +kernel
theorem dX4_read_58 : decode cX4_read 58 = .ok (.invokestatic 40, 3) := by decide +kernel
theorem dX4_read_61 : decode cX4_read 61 = .ok (.putfield 15, 3) := by decide +kernel
theorem dX4_read_64 : decode cX4_read 64 = .ok (.goto 149, 3) := by decide +kernel
theorem dX4_read_67 : decode cX4_read 67 = .ok (.iload_n 2, 1) := by decide +kernel
theorem dX4_read_68 : decode cX4_read 68 = .ok (.iconst 2, 1) := by decide +kernel
theorem dX4_read_69 : decode cX4_read 69 = .ok (.if_icmp .lt 11, 3) := by decide +kernel
theorem dX4_read_72 : decode cX4_read 72 = .ok (.aload_n 1, 1) := by decide +kernel
theorem dX4_read_73 : decode cX4_read 73 = .ok (.iload_n 2, 1) := by decide +kernel
theorem dX4_read_74 : decode cX4_read 74 = .ok (.invokevirtual 44, 3) := by decide +kernel
theorem dX4_read_77 : decode cX4_read 77 = .ok (.ifCond .ne 13, 3) := by decide +kernel
theorem dX4_read_80 : decode cX4_read 80 = .ok (.aload_n 0, 1) := by decide +kernel
theorem dX4_read_81 : decode cX4_read 81 = .ok (.getstatic 9, 3) := by decide +kernel
theorem dX4_read_84 : decode cX4_read 84 = .ok (.putfield 15, 3) := by decide +kernel
theorem dX4_read_87 : decode cX4_read 87 = .ok (.goto 126, 3) := by decide +kernel
theorem dX4_read_90 : decode cX4_read 90 = .ok (.aload_n 0, 1) := by decide +kernel
theorem dX4_read_91 : decode cX4_read 91 = .ok (.getfield 37, 3) := by decide +kernel
theorem dX4_read_94 : decode cX4_read 94 = .ok (.ifCond .le 47, 3) := by decide +kernel
theorem dX4_read_97 : decode cX4_read 97 = .ok (.iload_n 2, 1) := by decide +kernel
theorem dX4_read_98 : decode cX4_read 98 = .ok (.bipush 6, 2) := by decide +kernel
theorem dX4_read_100 : decode cX4_read 100 = .ok (.if_icmp .gt 41, 3) := by decide +kernel
theorem dX4_read_103 : decode cX4_read 103 = .ok (.iload_n 3, 1) := by decide +kernel
theorem dX4_read_104 : decode cX4_read 104 = .ok (.bipush 7, 2) := by decide +kernel
theorem dX4_read_106 : decode cX4_read 106 = .ok (.if_icmp .gt 35, 3) := by decide +kernel
theorem dX4_read_109 : decode cX4_read 109 = .ok (.aload_n 0, 1) := by decide +kernel
theorem dX4_read_110 : decode cX4_read 110 = .ok (.getfield 30, 3) := by decide +kernel
theorem dX4_read_113 : decode cX4_read 113 = .ok (.bipush 16, 2) := by decide +kernel
theorem dX4_read_115 : decode cX4_read 115 = .ok (.iload_n 2, 1) := by decide +kernel
theorem dX4_read_116 : decode cX4_read 116 = .ok (.imul, 1) := by decide +kernel
theorem dX4_read_117 : decode cX4_read 117 = .ok (.iload_n 3, 1) := by decide +kernel
theorem dX4_read_118 : decode cX4_read 118 = .ok (.iadd, 1) := by decide +kernel
theorem dX4_read_119 : decode cX4_read 119 = .ok (.if_icmp .ne 22, 3) := by decide +kernel
theorem dX4_read_122 : decode cX4_read 122 = .ok (.aload_n 0, 1) := by decide +kernel
theorem dX4_read_123 : decode cX4_read 123 = .ok (.getstatic 48, 3) := by decide +kernel
theorem dX4_read_126 : decode cX4_read 126 = .ok (.putfield 15, 3) := by decide +kernel
theorem dX4_read_129 : decode cX4_read 129 = .ok (.aload_n 0, 1) := by decide +kernel
theorem dX4_read_130 : decode cX4_read 130 = .ok (.aload_n 1, 1) := by decide +kernel
theorem dX4_read_131 : decode cX4_read 131 = .ok (.iload_n 2, 1) := by decide +kernel
theorem dX4_read_132 : decode cX4_read 132 = .ok (.iconst 2, 1) := by decide +kernel
theorem dX4_read_133 : decode cX4_read 133 = .ok (.isub, 1) := by decide +kernel
theorem dX4_read_134 : decode cX4_read 134 = .ok (.iload_n 3, 1) := by decide +kernel
theorem dX4_read_135 : decode cX4_read 135 = .ok (.invokevirtual 51, 3) := by decide +kernel
theorem dX4_read_138 : decode cX4_read 138 = .ok (.goto 75, 3) := by decide +kernel
theorem dX4_read_141 : decode cX4_read 141 = .ok (.iload_n 3, 1) := by decide +kernel
theorem dX4_read_142 : decode cX4_read 142 = .ok (.ifCond .gt 11, 3) := by decide +kernel
theorem dX4_read_145 : decode cX4_read 145 = .ok (.aload_n 1, 1) := by decide +kernel
theorem dX4_read_146 : decode cX4_read 146 = .ok (.iload_n 2, 1) := by decide +kernel
theorem dX4_read_147 : decode cX4_read 147 = .ok (.invokevirtual 55, 3) := by decide +kernel
theorem dX4_read_150 : decode cX4_read 150 = .ok (.ifCond .eq 13, 3) := by decide +kernel
theorem dX4_read_153 : decode cX4_read 153 = .ok (.aload_n 0, 1) := by decide +kernel
theorem dX4_read_154 : decode cX4_read 154 = .ok (.getstatic 9, 3) := by decide +kernel
theorem dX4_read_157 : decode cX4_read 157 = .ok (.putfield 15, 3) := by decide +kernel
theorem dX4_read_160 : decode cX4_read 160 = .ok (.goto 53, 3) := by decide +kernel
theorem dX4_read_163 : decode cX4_read 163 = .ok (.aload_n 0, 1) := by decide +kernel
theorem dX4_read_164 : decode cX4_read 164 = .ok (.getfield 37, 3) := by decide +kernel
theorem dX4_read_167 : decode cX4_read 167 = .ok (.ifCond .le 35, 3) := by decide +kernel
theorem dX4_read_170 : decode cX4_read 170 = .ok (.iload_n 2, 1) := by decide +kernel
theorem dX4_read_171 : decode cX4_read 171 = .ok (.bipush 9, 2) := by decide +kernel
theorem dX4_read_173 : decode cX4_read 173 = .ok (.if_icmp .ne 29, 3) := by decide +kernel
theorem dX4_read_176 : decode cX4_read 176 = .ok (.aload_n 0, 1) := by decide +kernel
theorem dX4_read_177 : decode cX4_read 177 = .ok (.getfield 30, 3) := by decide +kernel
theorem dX4_read_180 : decode cX4_read 180 = .ok (.bipush 112, 2) := by decide +kernel
theorem dX4_read_182 : decode cX4_read 182 = .ok (.if_icmp .ne 20, 3) := by decide +kernel
theorem dX4_read_185 : decode cX4_read 185 = .ok (.aload_n 0, 1) := by decide +kernel
theorem dX4_read_186 : decode cX4_read 186 = .ok (.getstatic 58, 3) := by decide +kernel
theorem dX4_read_189 : decode cX4_read 189 = .ok (.putfield 15, 3) := by decide +kernel
theorem dX4_read_192 : decode cX4_read 192 = .ok (.aload_n 0, 1) := by decide +kernel
theorem dX4_read_193 : decode cX4_read 193 = .ok (.aload_n 1, 1) := by decide +kernel
theorem dX4_read_194 : decode cX4_read 194 = .ok (.iconst 5, 1) := by decide +kernel
theorem dX4_read_195 : decode cX4_read 195 = .ok (.iconst 0, 1) := by decide +kernel
theorem dX4_read_196 : decode cX4_read 196 = .ok (.invokevirtual 51, 3) := by decide +kernel
theorem dX4_read_199 : decode cX4_read 199 = .ok (.goto 14, 3) := by decide +kernel
theorem dX4_read_202 : decode cX4_read 202 = .ok (.aload_n 0, 1) := by decide +kernel
theorem dX4_read_203 : decode cX4_read 203 = .ok (.aload_n 0, 1) := by decide +kernel
theorem dX4_read_204 : decode cX4_read 204 = .ok (.iload 4, 2) := by decide +kernel
theorem dX4_read_206 : decode cX4_read 206 = .ok (.iload_n 2, 1) := by decide +kernel
theorem dX4_read_207 : decode cX4_read 207 = .ok (.invokevirtual 61, 3) := by decide +kernel
theorem dX4_read_210 : decode cX4_read 210 = .ok (.putfield 15, 3) := by decide +kernel
theorem dX4_read_213 : decode cX4_read 213 = .ok (.return_, 1) := by decide +kernel
theorem dX4_kindOfShort_0 : decode cX4_kindOfShort 0 = .ok (.iload_n 0, 1) := by decide +kernel
theorem dX4_kindOfShort_1 : decode cX4_kindOfShort 1 = .ok (.bipush 38, 2) := by decide +kernel
theorem dX4_kindOfShort_3 : decode cX4_kindOfShort 3 = .ok (.if_icmp .ne 7, 3) := by decide +kernel
theorem dX4_kindOfShort_6 : decode cX4_kindOfShort 6 = .ok (.getstatic 65, 3) := by decide +kernel
theorem dX4_kindOfShort_9 : decode cX4_kindOfShort 9 = .ok (.areturn, 1) := by decide +kernel
theorem dX4_kindOfShort_10 : decode cX4_kindOfShort 10 = .ok (.iload_n 0, 1) := by decide +kernel
theorem dX4_kindOfShort_11 : decode cX4_kindOfShort 11 = .ok (.bipush 82, 2) := by decide +kernel
theorem dX4_kindOfShort_13 : decode cX4_kindOfShort 13 = .ok (.if_icmp .ne 9, 3) := by decide +kernel
theorem dX4_kindOfShort_16 : decode cX4_kindOfShort 16 = .ok (.getstatic 68, 3) := by decide +kernel
theorem dX4_kindOfShort_19 : decode cX4_kindOfShort 19 = .ok (.goto 6, 3) := by decide +kernel
theorem dX4_kindOfShort_22 : decode cX4_kindOfShort 22 = .ok (.getstatic 9, 3) := by decide +kernel
theorem dX4_kindOfShort_25 : decode cX4_kindOfShort 25 = .ok (.areturn, 1) := by decide +kernel
theorem dX4_kindOfCommand_0 : decode cX4_kindOfCommand 0 = .ok (.iload_n 1, 1) := by decide +kernel
theorem dX4_kindOfCommand_1 : decode cX4_kindOfCommand 1 = .ok (.bipush 80, 2) := by decide +kernel
theorem dX4_kindOfCommand_3 : decode cX4_kindOfCommand 3 = .ok (.if_icmp .ne 19, 3) := by decide +kernel
theorem dX4_kindOfCommand_6 : decode cX4_kindOfCommand 6 = .ok (.iload_n 2, 1) := by decide +kernel
theorem dX4_kindOfCommand_7 : decode cX4_kindOfCommand 7 = .ok (.iconst 4, 1) := by decide +kernel
theorem dX4_kindOfCommand_8 : decode cX4_kindOfCommand 8 = .ok (.if_icmp .ne 14, 3) := by decide +kernel
theorem dX4_kindOfCommand_11 : decode cX4_kindOfCommand 11 = .ok (.aload_n 0, 1) := by decide +kernel
theorem dX4_kindOfCommand_12 : decode cX4_kindOfCommand 12 = .ok (.getfield 30, 3) := by decide +kernel
theorem dX4_kindOfCommand_15 : decode cX4_kindOfCommand 15 = .ok (.ifCond .ne 7, 3) := by decide +kernel
theorem dX4_kindOfCommand_18 : decode cX4_kindOfCommand 18 = .ok (.getstatic 71, 3) := by decide +kernel
theorem dX4_kindOfCommand_21 : decode cX4_kindOfCommand 21 = .ok (.areturn, 1) := by decide +kernel
theorem dX4_kindOfCommand_22 : decode cX4_kindOfCommand 22 = .ok (.iload_n 1, 1) := by decide +kernel
theorem dX4_kindOfCommand_23 : decode cX4_kindOfCommand 23 = .ok (.sipush 224, 3) := by decide +kernel
theorem dX4_kindOfCommand_26 : decode cX4_kindOfCommand 26 = .ok (.if_icmp .ne 12, 3) := by decide +kernel
theorem dX4_kindOfCommand_29 : decode cX4_kindOfCommand 29 = .ok (.iload_n 2, 1) := by decide +kernel
theorem dX4_kindOfCommand_30 : decode cX4_kindOfCommand 30 = .ok (.iconst 4, 1) := by decide +kernel
theorem dX4_kindOfCommand_31 : decode cX4_kindOfCommand 31 = .ok (.if_icmp .ne 7, 3) := by decide +kernel
theorem dX4_kindOfCommand_34 : decode cX4_kindOfCommand 34 = .ok (.getstatic 74, 3) := by decide +kernel
theorem dX4_kindOfCommand_37 : decode cX4_kindOfCommand 37 = .ok (.areturn, 1) := by decide +kernel
theorem dX4_kindOfCommand_38 : decode cX4_kindOfCommand 38 = .ok (.iload_n 1, 1) := by decide +kernel
theorem dX4_kindOfCommand_39 : decode cX4_kindOfCommand 39 = .ok (.sipush 194, 3) := by decide +kernel
theorem dX4_kindOfCommand_42 : decode cX4_kindOfCommand 42 = .ok (.if_icmp .ne 14, 3) := by decide +kernel
theorem dX4_kindOfCommand_45 : decode cX4_kindOfCommand 45 = .ok (.iload_n 2, 1) := by decide +kernel
theorem dX4_kindOfCommand_46 : decode cX4_kindOfCommand 46 = .ok (.iconst 3, 1) := by decide +kernel
theorem dX4_kindOfCommand_47 : decode cX4_kindOfCommand 47 = .ok (.if_icmp .ne 9, 3) := by decide +kernel
theorem dX4_kindOfCommand_50 : decode cX4_kindOfCommand 50 = .ok (.getstatic 77, 3) := by decide +kernel
theorem dX4_kindOfCommand_53 : decode cX4_kindOfCommand 53 = .ok (.goto 6, 3) := by decide +kernel
theorem dX4_kindOfCommand_56 : decode cX4_kindOfCommand 56 = .ok (.getstatic 9, 3) := by decide +kernel
theorem dX4_kindOfCommand_59 : decode cX4_kindOfCommand 59 = .ok (.areturn, 1) := by decide +kernel
theorem dX4_readTold_0 : decode cX4_readTold 0 = .ok (.aload_n 0, 1) := by decide +kernel
theorem dX4_readTold_1 : decode cX4_readTold 1 = .ok (.lconst 0, 1) := by decide +kernel
theorem dX4_readTold_2 : decode cX4_readTold 2 = .ok (.putfield 80, 3) := by decide +kernel
theorem dX4_readTold_5 : decode cX4_readTold 5 = .ok (.iconst 0, 1) := by decide +kernel
theorem dX4_readTold_6 : decode cX4_readTold 6 = .ok (.istore 4, 2) := by decide +kernel
theorem dX4_readTold_8 : decode cX4_readTold 8 = .ok (.iload 4, 2) := by decide +kernel
theorem dX4_readTold_10 : decode cX4_readTold 10 = .ok (.iload_n 2, 1) := by decide +kernel
theorem dX4_readTold_11 : decode cX4_readTold 11 = .ok (.if_icmp .ge 38, 3) := by decide +kernel
theorem dX4_readTold_14 : decode cX4_readTold 14 = .ok (.aload_n 0, 1) := by decide +kernel
theorem dX4_readTold_15 : decode cX4_readTold 15 = .ok (.dup, 1) := by decide +kernel
theorem dX4_readTold_16 : decode cX4_readTold 16 = .ok (.getfield 80, 3) := by decide +kernel
theorem dX4_readTold_19 : decode cX4_readTold 19 = .ok (.aload_n 1, 1) := by decide +kernel
theorem dX4_readTold_20 : decode cX4_readTold 20 = .ok (.bipush 9, 2) := by decide +kernel
theorem dX4_readTold_22 : decode cX4_readTold 22 = .ok (.iconst 2, 1) := by decide +kernel
theorem dX4_readTold_23 : decode cX4_readTold 23 = .ok (.iload 4, 2) := by decide +kernel
theorem dX4_readTold_25 : decode cX4_readTold 25 = .ok (.iadd, 1) := by decide +kernel
theorem dX4_readTold_26 : decode cX4_readTold 26 = .ok (.imul, 1) := by decide +kernel
theorem dX4_readTold_27 : decode cX4_readTold 27 = .ok (.bipush 8, 2) := by decide +kernel
theorem dX4_readTold_29 : decode cX4_readTold 29 = .ok (.invokevirtual 26, 3) := by decide +kernel
theorem dX4_readTold_32 : decode cX4_readTold 32 = .ok (.i2l, 1) := by decide +kernel
theorem dX4_readTold_33 : decode cX4_readTold 33 = .ok (.bipush 8, 2) := by decide +kernel
theorem dX4_readTold_35 : decode cX4_readTold 35 = .ok (.iload 4, 2) := by decide +kernel
theorem dX4_readTold_37 : decode cX4_readTold 37 = .ok (.imul, 1) := by decide +kernel
theorem dX4_readTold_38 : decode cX4_readTold 38 = .ok (.lshl, 1) := by decide +kernel
theorem dX4_readTold_39 : decode cX4_readTold 39 = .ok (.lor, 1) := by decide +kernel
theorem dX4_readTold_40 : decode cX4_readTold 40 = .ok (.putfield 80, 3) := by decide +kernel
theorem dX4_readTold_43 : decode cX4_readTold 43 = .ok (.iinc 4 1, 3) := by decide +kernel
theorem dX4_readTold_46 : decode cX4_readTold 46 = .ok (.goto (-38), 3) := by decide +kernel
theorem dX4_readTold_49 : decode cX4_readTold 49 = .ok (.aload_n 0, 1) := by decide +kernel
theorem dX4_readTold_50 : decode cX4_readTold 50 = .ok (.dup, 1) := by decide +kernel
theorem dX4_readTold_51 : decode cX4_readTold 51 = .ok (.getfield 80, 3) := by decide +kernel
theorem dX4_readTold_54 : decode cX4_readTold 54 = .ok (.aload_n 1, 1) := by decide +kernel
theorem dX4_readTold_55 : decode cX4_readTold 55 = .ok (.bipush 9, 2) := by decide +kernel
theorem dX4_readTold_57 : decode cX4_readTold 57 = .ok (.iconst 2, 1) := by decide +kernel
theorem dX4_readTold_58 : decode cX4_readTold 58 = .ok (.iload_n 2, 1) := by decide +kernel
theorem dX4_readTold_59 : decode cX4_readTold 59 = .ok (.iadd, 1) := by decide +kernel
theorem dX4_readTold_60 : decode cX4_readTold 60 = .ok (.imul, 1) := by decide +kernel
theorem dX4_readTold_61 : decode cX4_readTold 61 = .ok (.iload_n 3, 1) := by decide +kernel
theorem dX4_readTold_62 : decode cX4_readTold 62 = .ok (.invokevirtual 26, 3) := by decide +kernel
theorem dX4_readTold_65 : decode cX4_readTold 65 = .ok (.i2l, 1) := by decide +kernel
theorem dX4_readTold_66 : decode cX4_readTold 66 = .ok (.bipush 8, 2) := by decide +kernel
theorem dX4_readTold_68 : decode cX4_readTold 68 = .ok (.iload_n 2, 1) := by decide +kernel
theorem dX4_readTold_69 : decode cX4_readTold 69 = .ok (.imul, 1) := by decide +kernel
theorem dX4_readTold_70 : decode cX4_readTold 70 = .ok (.lshl, 1) := by decide +kernel
theorem dX4_readTold_71 : decode cX4_readTold 71 = .ok (.lor, 1) := by decide +kernel
theorem dX4_readTold_72 : decode cX4_readTold 72 = .ok (.putfield 80, 3) := by decide +kernel
theorem dX4_readTold_75 : decode cX4_readTold 75 = .ok (.aload_n 0, 1) := by decide +kernel
theorem dX4_readTold_76 : decode cX4_readTold 76 = .ok (.bipush 8, 2) := by decide +kernel
theorem dX4_readTold_78 : decode cX4_readTold 78 = .ok (.iload_n 2, 1) := by decide +kernel
theorem dX4_readTold_79 : decode cX4_readTold 79 = .ok (.imul, 1) := by decide +kernel
theorem dX4_readTold_80 : decode cX4_readTold 80 = .ok (.iload_n 3, 1) := by decide +kernel
theorem dX4_readTold_81 : decode cX4_readTold 81 = .ok (.iadd, 1) := by decide +kernel
theorem dX4_readTold_82 : decode cX4_readTold 82 = .ok (.putfield 84, 3) := by decide +kernel
theorem dX4_readTold_85 : decode cX4_readTold 85 = .ok (.return_, 1) := by decide +kernel
theorem dX4_levelOf_0 : decode cX4_levelOf 0 = .ok (.iconst 1, 1) := by decide +kernel
theorem dX4_levelOf_1 : decode cX4_levelOf 1 = .ok (.istore_n 1, 1) := by decide +kernel
theorem dX4_levelOf_2 : decode cX4_levelOf 2 = .ok (.iload_n 1, 1) := by decide +kernel
theorem dX4_levelOf_3 : decode cX4_levelOf 3 = .ok (.iconst 3, 1) := by decide +kernel
theorem dX4_levelOf_4 : decode cX4_levelOf 4 = .ok (.if_icmp .gt 19, 3) := by decide +kernel
theorem dX4_levelOf_7 : decode cX4_levelOf 7 = .ok (.iload_n 0, 1) := by decide +kernel
theorem dX4_levelOf_8 : decode cX4_levelOf 8 = .ok (.iload_n 1, 1) := by decide +kernel
theorem dX4_levelOf_9 : decode cX4_levelOf 9 = .ok (.invokestatic 87, 3) := by decide +kernel
theorem dX4_levelOf_12 : decode cX4_levelOf 12 = .ok (.if_icmp .ne 5, 3) := by decide +kernel
theorem dX4_levelOf_15 : decode cX4_levelOf 15 = .ok (.iload_n 1, 1) := by decide +kernel
theorem dX4_levelOf_16 : decode cX4_levelOf 16 = .ok (.ireturn, 1) := by decide +kernel
theorem dX4_levelOf_17 : decode cX4_levelOf 17 = .ok (.iinc 1 1, 3) := by decide +kernel
theorem dX4_levelOf_20 : decode cX4_levelOf 20 = .ok (.goto (-18), 3) := by decide +kernel
theorem dX4_levelOf_23 : decode cX4_levelOf 23 = .ok (.iconst 0, 1) := by decide +kernel
theorem dX4_levelOf_24 : decode cX4_levelOf 24 = .ok (.ireturn, 1) := by decide +kernel
theorem dX4_levelByte_0 : decode cX4_levelByte 0 = .ok (.sipush 145, 3) := by decide +kernel
theorem dX4_levelByte_3 : decode cX4_levelByte 3 = .ok (.iconst 2, 1) := by decide +kernel
theorem dX4_levelByte_4 : decode cX4_levelByte 4 = .ok (.iload_n 0, 1) := by decide +kernel
theorem dX4_levelByte_5 : decode cX4_levelByte 5 = .ok (.imul, 1) := by decide +kernel
theorem dX4_levelByte_6 : decode cX4_levelByte 6 = .ok (.iadd, 1) := by decide +kernel
theorem dX4_levelByte_7 : decode cX4_levelByte 7 = .ok (.ireturn, 1) := by decide +kernel
theorem dX6_init_0 : decode cX6_init 0 = .ok (.aload_n 0, 1) := by decide +kernel
theorem dX6_init_1 : decode cX6_init 1 = .ok (.invokespecial 3, 3) := by decide +kernel
theorem dX6_init_4 : decode cX6_init 4 = .ok (.aload_n 0, 1) := by decide +kernel
theorem dX6_init_5 : decode cX6_init 5 = .ok (.new 9, 3) := by decide +kernel
theorem dX6_init_8 : decode cX6_init 8 = .ok (.dup, 1) := by decide +kernel
theorem dX6_init_9 : decode cX6_init 9 = .ok (.bipush 81, 2) := by decide +kernel
theorem dX6_init_11 : decode cX6_init 11 = .ok (.invokespecial 11, 3) := by decide +kernel
theorem dX6_init_14 : decode cX6_init 14 = .ok (.putfield 14, 3) := by decide +kernel
theorem dX6_init_17 : decode cX6_init 17 = .ok (.aload_n 0, 1) := by decide +kernel
theorem dX6_init_18 : decode cX6_init 18 = .ok (.new 20, 3) := by decide +kernel
theorem dX6_init_21 : decode cX6_init 21 = .ok (.dup, 1) := by decide +kernel
theorem dX6_init_22 : decode cX6_init 22 = .ok (.invokespecial 22, 3) := by decide +kernel
theorem dX6_init_25 : decode cX6_init 25 = .ok (.putfield 23, 3) := by decide +kernel
theorem dX6_init_28 : decode cX6_init 28 = .ok (.aload_n 0, 1) := by decide +kernel
theorem dX6_init_29 : decode cX6_init 29 = .ok (.sipush 400, 3) := by decide +kernel
theorem dX6_init_32 : decode cX6_init 32 = .ok (.newarray .int, 2) := by decide +kernel
theorem dX6_init_34 : decode cX6_init 34 = .ok (.putfield 27, 3) := by decide +kernel
theorem dX6_init_37 : decode cX6_init 37 = .ok (.aload_n 0, 1) := by decide +kernel
theorem dX6_init_38 : decode cX6_init 38 = .ok (.bipush 40, 2) := by decide +kernel
theorem dX6_init_40 : decode cX6_init 40 = .ok (.newarray .int, 2) := by decide +kernel
theorem dX6_init_42 : decode cX6_init 42 = .ok (.putfield 31, 3) := by decide +kernel
theorem dX6_init_45 : decode cX6_init 45 = .ok (.return_, 1) := by decide +kernel
theorem dX6_forget_0 : decode cX6_forget 0 = .ok (.aload_n 0, 1) := by decide +kernel
theorem dX6_forget_1 : decode cX6_forget 1 = .ok (.iconst 0, 1) := by decide +kernel
theorem dX6_forget_2 : decode cX6_forget 2 = .ok (.putfield 34, 3) := by decide +kernel
theorem dX6_forget_5 : decode cX6_forget 5 = .ok (.return_, 1) := by decide +kernel
theorem dX6_byteFound_0 : decode cX6_byteFound 0 = .ok (.iload_n 1, 1) := by decide +kernel
theorem dX6_byteFound_1 : decode cX6_byteFound 1 = .ok (.ifCond .lt 25, 3) := by decide +kernel
theorem dX6_byteFound_4 : decode cX6_byteFound 4 = .ok (.iload_n 1, 1) := by decide +kernel
theorem dX6_byteFound_5 : decode cX6_byteFound 5 = .ok (.aload_n 0, 1) := by decide +kernel
theorem dX6_byteFound_6 : decode cX6_byteFound 6 = .ok (.getfield 34, 3) := by decide +kernel
theorem dX6_byteFound_9 : decode cX6_byteFound 9 = .ok (.if_icmp .ge 17, 3) := by decide +kernel
theorem dX6_byteFound_12 : decode cX6_byteFound 12 = .ok (.iload_n 2, 1) := by decide +kernel
theorem dX6_byteFound_13 : decode cX6_byteFound 13 = .ok (.ifCond .lt 13, 3) := by decide +kernel
theorem dX6_byteFound_16 : decode cX6_byteFound 16 = .ok (.iload_n 2, 1) := by decide +kernel
theorem dX6_byteFound_17 : decode cX6_byteFound 17 = .ok (.aload_n 0, 1) := by decide +kernel
theorem dX6_byteFound_18 : decode cX6_byteFound 18 = .ok (.getfield 31, 3) := by decide +kernel
theorem dX6_byteFound_21 : decode cX6_byteFound 21 = .ok (.iload_n 1, 1) := by decide +kernel
theorem dX6_byteFound_22 : decode cX6_byteFound 22 = .ok (.iaload, 1) := by decide +kernel
theorem dX6_byteFound_23 : decode cX6_byteFound 23 = .ok (.if_icmp .lt 5, 3) := by decide +kernel
theorem dX6_byteFound_26 : decode cX6_byteFound 26 = .ok (.iconst (-1), 1) := by decide +kernel
theorem dX6_byteFound_27 : decode cX6_byteFound 27 = .ok (.ireturn, 1) := by decide +kernel
theorem dX6_byteFound_28 : decode cX6_byteFound 28 = .ok (.aload_n 0, 1) := by decide +kernel
theorem dX6_byteFound_29 : decode cX6_byteFound 29 = .ok (.getfield 27, 3) := by decide +kernel
theorem dX6_byteFound_32 : decode cX6_byteFound 32 = .ok (.bipush 10, 2) := by decide +kernel
theorem dX6_byteFound_34 : decode cX6_byteFound 34 = .ok (.iload_n 1, 1) := by decide +kernel
theorem dX6_byteFound_35 : decode cX6_byteFound 35 = .ok (.imul, 1) := by decide +kernel
theorem dX6_byteFound_36 : decode cX6_byteFound 36 = .ok (.iload_n 2, 1) := by decide +kernel
theorem dX6_byteFound_37 : decode cX6_byteFound 37 = .ok (.iadd, 1) := by decide +kernel
theorem dX6_byteFound_38 : decode cX6_byteFound 38 = .ok (.iaload, 1) := by decide +kernel
theorem dX6_byteFound_39 : decode cX6_byteFound 39 = .ok (.ireturn, 1) := by decide +kernel
theorem dX6_findOne_0 : decode cX6_findOne 0 = .ok (.aload_n 0, 1) := by decide +kernel
theorem dX6_findOne_1 : decode cX6_findOne 1 = .ok (.getfield 14, 3) := by decide +kernel
theorem dX6_findOne_4 : decode cX6_findOne 4 = .ok (.invokevirtual 38, 3) := by decide +kernel
theorem dX6_findOne_7 : decode cX6_findOne 7 = .ok (.aload_n 0, 1) := by decide +kernel
theorem dX6_findOne_8 : decode cX6_findOne 8 = .ok (.getfield 14, 3) := by decide +kernel
theorem dX6_findOne_11 : decode cX6_findOne 11 = .ok (.bipush 38, 2) := by decide +kernel
theorem dX6_findOne_13 : decode cX6_findOne 13 = .ok (.bipush 7, 2) := by decide +kernel
theorem dX6_findOne_15 : decode cX6_findOne 15 = .ok (.invokevirtual 41, 3) := by decide +kernel
theorem dX6_findOne_18 : decode cX6_findOne 18 = .ok (.aload_n 0, 1) := by decide +kernel
theorem dX6_findOne_19 : decode cX6_findOne 19 = .ok (.getfield 34, 3) := by decide +kernel
theorem dX6_findOne_22 : decode cX6_findOne 22 = .ok (.bipush 40, 2) := by decide +kernel
theorem dX6_findOne_24 : decode cX6_findOne 24 = .ok (.if_icmp .ge 18, 3) := by decide +kernel
theorem dX6_findOne_27 : decode cX6_findOne 27 = .ok (.aload_n 1, 1) := by decide +kernel
theorem dX6_findOne_28 : decode cX6_findOne 28 = .ok (.aload_n 0, 1) := by decide +kernel
theorem dX6_findOne_29 : decode cX6_findOne 29 = .ok (.getfield 14, 3) := by decide +kernel
theorem dX6_findOne_32 : decode cX6_findOne 32 = .ok (.aload_n 0, 1) := by decide +kernel
theorem dX6_findOne_33 : decode cX6_findOne 33 = .ok (.getfield 23, 3) := by decide +kernel
theorem dX6_findOne_36 : decode cX6_findOne 36 = .ok (.invokevirtual 45, 3) := by decide +kernel
theorem dX6_findOne_39 : decode cX6_findOne 39 = .ok (.ifCond .ne 5, 3) := by decide +kernel
theorem dX6_findOne_42 : decode cX6_findOne 42 = .ok (.iconst 0, 1) := by decide +kernel
theorem dX6_findOne_43 : decode cX6_findOne 43 = .ok (.ireturn, 1) := by decide +kernel
theorem dX6_findOne_44 : decode cX6_findOne 44 = .ok (.aload_n 0, 1) := by decide +kernel
theorem dX6_findOne_45 : decode cX6_findOne 45 = .ok (.getfield 31, 3) := by decide +kernel
theorem dX6_findOne_48 : decode cX6_findOne 48 = .ok (.aload_n 0, 1) := by decide +kernel
theorem dX6_findOne_49 : decode cX6_findOne 49 = .ok (.getfield 34, 3) := by decide +kernel
theorem dX6_findOne_52 : decode cX6_findOne 52 = .ok (.iconst 0, 1) := by decide +kernel
theorem dX6_findOne_53 : decode cX6_findOne 53 = .ok (.iastore, 1) := by decide +kernel
theorem dX6_findOne_54 : decode cX6_findOne 54 = .ok (.iconst 1, 1) := by decide +kernel
theorem dX6_findOne_55 : decode cX6_findOne 55 = .ok (.istore_n 2, 1) := by decide +kernel
theorem dX6_findOne_56 : decode cX6_findOne 56 = .ok (.iload_n 2, 1) := by decide +kernel
theorem dX6_findOne_57 : decode cX6_findOne 57 = .ok (.iconst 3, 1) := by decide +kernel
theorem dX6_findOne_58 : decode cX6_findOne 58 = .ok (.if_icmp .gt 80, 3) := by decide +kernel
theorem dX6_findOne_61 : decode cX6_findOne 61 = .ok (.aload_n 0, 1) := by decide +kernel
theorem dX6_findOne_62 : decode cX6_findOne 62 = .ok (.iload_n 2, 1) := by decide +kernel
theorem dX6_findOne_63 : decode cX6_findOne 63 = .ok (.aload_n 1, 1) := by decide +kernel
theorem dX6_findOne_64 : decode cX6_findOne 64 = .ok (.invokevirtual 51, 3) := by decide +kernel
theorem dX6_findOne_67 : decode cX6_findOne 67 = .ok (.ifCond .eq 12, 3) := by decide +kernel
theorem dX6_findOne_70 : decode cX6_findOne 70 = .ok (.aload_n 0, 1) := by decide +kernel
theorem dX6_findOne_71 : decode cX6_findOne 71 = .ok (.iload_n 2, 1) := by decide +kernel
theorem dX6_findOne_72 : decode cX6_findOne 72 = .ok (.aload_n 1, 1) := by decide +kernel
theorem dX6_findOne_73 : decode cX6_findOne 73 = .ok (.invokevirtual 55, 3) := by decide +kernel
theorem dX6_findOne_76 : decode cX6_findOne 76 = .ok (.ifCond .ne 5, 3) := by decide +kernel
theorem dX6_findOne_79 : decode cX6_findOne 79 = .ok (.iconst 0, 1) := by decide +kernel
theorem dX6_findOne_80 : decode cX6_findOne 80 = .ok (.ireturn, 1) := by decide +kernel
theorem dX6_findOne_81 : decode cX6_findOne 81 = .ok (.aload_n 0, 1) := by decide +kernel
theorem dX6_findOne_82 : decode cX6_findOne 82 = .ok (.getfield 23, 3) := by decide +kernel
theorem dX6_findOne_85 : decode cX6_findOne 85 = .ok (.iconst 4, 1) := by decide +kernel
theorem dX6_findOne_86 : decode cX6_findOne 86 = .ok (.invokevirtual 58, 3) := by decide +kernel
theorem dX6_findOne_89 : decode cX6_findOne 89 = .ok (.ifCond .ne 7, 3) := by decide +kernel
theorem dX6_findOne_92 : decode cX6_findOne 92 = .ok (.iconst 1, 1) := by decide +kernel
theorem dX6_findOne_93 : decode cX6_findOne 93 = .ok (.goto 4, 3) := by decide +kernel
theorem dX6_findOne_96 : decode cX6_findOne 96 = .ok (.iconst 0, 1) := by decide +kernel
theorem dX6_findOne_97 : decode cX6_findOne 97 = .ok (.istore_n 3, 1) := by decide +kernel
theorem dX6_findOne_98 : decode cX6_findOne 98 = .ok (.aload_n 0, 1) := by decide +kernel
theorem dX6_findOne_99 : decode cX6_findOne 99 = .ok (.iload_n 3, 1) := by decide +kernel
theorem dX6_findOne_100 : decode cX6_findOne 100 = .ok (.ifCond .eq 7, 3) := by decide +kernel
theorem dX6_findOne_103 : decode cX6_findOne 103 = .ok (.iconst 0, 1) := by decide +kernel
theorem dX6_findOne_104 : decode cX6_findOne 104 = .ok (.goto 4, 3) := by decide +kernel
theorem dX6_findOne_107 : decode cX6_findOne 107 = .ok (.iconst 1, 1) := by decide +kernel
theorem dX6_findOne_108 : decode cX6_findOne 108 = .ok (.invokevirtual 62, 3) := by decide +kernel
theorem dX6_findOne_111 : decode cX6_findOne 111 = .ok (.iload_n 3, 1) := by decide +kernel
theorem dX6_findOne_112 : decode cX6_findOne 112 = .ok (.ifCond .eq 20, 3) := by decide +kernel
theorem dX6_findOne_115 : decode cX6_findOne 115 = .ok (.aload_n 0, 1) := by decide +kernel
theorem dX6_findOne_116 : decode cX6_findOne 116 = .ok (.dup, 1) := by decide +kernel
theorem dX6_findOne_117 : decode cX6_findOne 117 = .ok (.getfield 34, 3) := by decide +kernel
theorem dX6_findOne_120 : decode cX6_findOne 120 = .ok (.iconst 1, 1) := by decide +kernel
theorem dX6_findOne_121 : decode cX6_findOne 121 = .ok (.iadd, 1) := by decide +kernel
theorem dX6_findOne_122 : decode cX6_findOne 122 = .ok (.putfield 34, 3) := by decide +kernel
theorem dX6_findOne_125 : decode cX6_findOne 125 = .ok (.aload_n 0, 1) := by decide +kernel
theorem dX6_findOne_126 : decode cX6_findOne 126 = .ok (.aload_n 1, 1) := by decide +kernel
theorem dX6_findOne_127 : decode cX6_findOne 127 = .ok (.invokevirtual 65, 3) := by decide +kernel
theorem dX6_findOne_130 : decode cX6_findOne 130 = .ok (.iconst 1, 1) := by decide +kernel
theorem dX6_findOne_131 : decode cX6_findOne 131 = .ok (.ireturn, 1) := by decide +kernel
theorem dX6_findOne_132 : decode cX6_findOne 132 = .ok (.iinc 2 1, 3) := by decide +kernel
theorem dX6_findOne_135 : decode cX6_findOne 135 = .ok (.goto (-79), 3) := by decide +kernel
theorem dX6_findOne_138 : decode cX6_findOne 138 = .ok (.iconst 0, 1) := by decide +kernel
theorem dX6_findOne_139 : decode cX6_findOne 139 = .ok (.ireturn, 1) := by decide +kernel
theorem dX6_searchLevel_0 : decode cX6_searchLevel 0 = .ok (.aload_n 0, 1) := by decide +kernel
theorem dX6_searchLevel_1 : decode cX6_searchLevel 1 = .ok (.lconst 0, 1) := by decide +kernel
theorem dX6_searchLevel_2 : decode cX6_searchLevel 2 = .ok (.putfield 69, 3) := by decide +kernel
theorem dX6_searchLevel_5 : decode cX6_searchLevel 5 = .ok (.aload_n 0, 1) := by decide +kernel
theorem dX6_searchLevel_6 : decode cX6_searchLevel 6 = .ok (.iconst 0, 1) := by decide +kernel
theorem dX6_searchLevel_7 : decode cX6_searchLevel 7 = .ok (.putfield 73, 3) := by decide +kernel
theorem dX6_searchLevel_10 : decode cX6_searchLevel 10 = .ok (.iconst 0, 1) := by decide +kernel
theorem dX6_searchLevel_11 : decode cX6_searchLevel 11 = .ok (.istore_n 3, 1) := by decide +kernel
theorem dX6_searchLevel_12 : decode cX6_searchLevel 12 = .ok (.iload_n 3, 1) := by decide +kernel
theorem dX6_searchLevel_13 : decode cX6_searchLevel 13 = .ok (.bipush 40, 2) := by decide +kernel
theorem dX6_searchLevel_15 : decode cX6_searchLevel 15 = .ok (.if_icmp .ge 44, 3) := by decide +kernel
theorem dX6_searchLevel_18 : decode cX6_searchLevel 18 = .ok (.aload_n 0, 1) := by decide +kernel
theorem dX6_searchLevel_19 : decode cX6_searchLevel 19 = .ok (.getfield 73, 3) := by decide +kernel
theorem dX6_searchLevel_22 : decode cX6_searchLevel 22 = .ok (.bipush 40, 2) := by decide +kernel
theorem dX6_searchLevel_24 : decode cX6_searchLevel 24 = .ok (.if_icmp .ge 35, 3) := by decide +kernel
theorem dX6_searchLevel_27 : decode cX6_searchLevel 27 = .ok (.aload_n 0, 1) := by decide +kernel
theorem dX6_searchLevel_28 : decode cX6_searchLevel 28 = .ok (.iload_n 1, 1) := by decide +kernel
theorem dX6_searchLevel_29 : decode cX6_searchLevel 29 = .ok (.invokevirtual 76, 3) := by decide +kernel
theorem dX6_searchLevel_32 : decode cX6_searchLevel 32 = .ok (.aload_n 2, 1) := by decide +kernel
theorem dX6_searchLevel_33 : decode cX6_searchLevel 33 = .ok (.aload_n 0, 1) := by decide +kernel
theorem dX6_searchLevel_34 : decode cX6_searchLevel 34 = .ok (.getfield 14, 3) := by decide +kernel
theorem dX6_searchLevel_37 : decode cX6_searchLevel 37 = .ok (.aload_n 0, 1) := by decide +kernel
theorem dX6_searchLevel_38 : decode cX6_searchLevel 38 = .ok (.getfield 23, 3) := by decide +kernel
theorem dX6_searchLevel_41 : decode cX6_searchLevel 41 = .ok (.invokevirtual 45, 3) := by decide +kernel
theorem dX6_searchLevel_44 : decode cX6_searchLevel 44 = .ok (.ifCond .ne 5, 3) := by decide +kernel
theorem dX6_searchLevel_47 : decode cX6_searchLevel 47 = .ok (.iconst 0, 1) := by decide +kernel
theorem dX6_searchLevel_48 : decode cX6_searchLevel 48 = .ok (.ireturn, 1) := by decide +kernel
theorem dX6_searchLevel_49 : decode cX6_searchLevel 49 = .ok (.aload_n 0, 1) := by decide +kernel
theorem dX6_searchLevel_50 : decode cX6_searchLevel 50 = .ok (.invokevirtual 79, 3) := by decide +kernel
theorem dX6_searchLevel_53 : decode cX6_searchLevel 53 = .ok (.iinc 3 1, 3) := by decide +kernel
theorem dX6_searchLevel_56 : decode cX6_searchLevel 56 = .ok (.goto (-44), 3) := by decide +kernel
theorem dX6_searchLevel_59 : decode cX6_searchLevel 59 = .ok (.iconst 1, 1) := by decide +kernel
theorem dX6_searchLevel_60 : decode cX6_searchLevel 60 = .ok (.ireturn, 1) := by decide +kernel
theorem dX6_layOutSearch_0 : decode cX6_layOutSearch 0 = .ok (.aload_n 0, 1) := by decide +kernel
theorem dX6_layOutSearch_1 : decode cX6_layOutSearch 1 = .ok (.getfield 73, 3) := by decide +kernel
theorem dX6_layOutSearch_4 : decode cX6_layOutSearch 4 = .ok (.bipush 8, 2) := by decide +kernel
theorem dX6_layOutSearch_6 : decode cX6_layOutSearch 6 = .ok (.idiv, 1) := by decide +kernel
theorem dX6_layOutSearch_7 : decode cX6_layOutSearch 7 = .ok (.istore_n 2, 1) := by decide +kernel
theorem dX6_layOutSearch_8 : decode cX6_layOutSearch 8 = .ok (.aload_n 0, 1) := by decide +kernel
theorem dX6_layOutSearch_9 : decode cX6_layOutSearch 9 = .ok (.getfield 73, 3) := by decide +kernel
theorem dX6_layOutSearch_12 : decode cX6_layOutSearch 12 = .ok (.bipush 8, 2) := by decide +kernel
theorem dX6_layOutSearch_14 : decode cX6_layOutSearch 14 = .ok (.irem, 1) := by decide +kernel
theorem dX6_layOutSearch_15 : decode cX6_layOutSearch 15 = .ok (.istore_n 3, 1) := by decide +kernel
theorem dX6_layOutSearch_16 : decode cX6_layOutSearch 16 = .ok (.aload_n 0, 1) := by decide +kernel
theorem dX6_layOutSearch_17 : decode cX6_layOutSearch 17 = .ok (.getfield 14, 3) := by decide +kernel
theorem dX6_layOutSearch_20 : decode cX6_layOutSearch 20 = .ok (.invokevirtual 38, 3) := by decide +kernel
theorem dX6_layOutSearch_23 : decode cX6_layOutSearch 23 = .ok (.aload_n 0, 1) := by decide +kernel
theorem dX6_layOutSearch_24 : decode cX6_layOutSearch 24 = .ok (.getfield 14, 3) := by decide +kernel
theorem dX6_layOutSearch_27 : decode cX6_layOutSearch 27 = .ok (.iload_n 1, 1) := by decide +kernel
theorem dX6_layOutSearch_28 : decode cX6_layOutSearch 28 = .ok (.invokestatic 82, 3) := by decide +kernel
theorem dX6_layOutSearch_31 : decode cX6_layOutSearch 31 = .ok (.invokevirtual 88, 3) := by decide +kernel
theorem dX6_layOutSearch_34 : decode cX6_layOutSearch 34 = .ok (.aload_n 0, 1) := by decide +kernel
theorem dX6_layOutSearch_35 : decode cX6_layOutSearch 35 = .ok (.getfield 14, 3) := by decide +kernel
theorem dX6_layOutSearch_38 : decode cX6_layOutSearch 38 = .ok (.bipush 32, 2) := by decide +kernel
theorem dX6_layOutSearch_40 : decode cX6_layOutSearch 40 = .ok (.bipush 16, 2) := by decide +kernel
theorem dX6_layOutSearch_42 : decode cX6_layOutSearch 42 = .ok (.iload_n 2, 1) := by decide +kernel
theorem dX6_layOutSearch_43 : decode cX6_layOutSearch 43 = .ok (.imul, 1) := by decide +kernel
theorem dX6_layOutSearch_44 : decode cX6_layOutSearch 44 = .ok (.iadd, 1) := by decide +kernel
theorem dX6_layOutSearch_45 : decode cX6_layOutSearch 45 = .ok (.iload_n 3, 1) := by decide +kernel
theorem dX6_layOutSearch_46 : decode cX6_layOutSearch 46 = .ok (.iadd, 1) := by decide +kernel
theorem dX6_layOutSearch_47 : decode cX6_layOutSearch 47 = .ok (.invokevirtual 88, 3) := by decide +kernel
theorem dX6_layOutSearch_50 : decode cX6_layOutSearch 50 = .ok (.iconst 0, 1) := by decide +kernel
theorem dX6_layOutSearch_51 : decode cX6_layOutSearch 51 = .ok (.istore 4, 2) := by decide +kernel
theorem dX6_layOutSearch_53 : decode cX6_layOutSearch 53 = .ok (.iload 4, 2) := by decide +kernel
theorem dX6_layOutSearch_55 : decode cX6_layOutSearch 55 = .ok (.iload_n 2, 1) := by decide +kernel
theorem dX6_layOutSearch_56 : decode cX6_layOutSearch 56 = .ok (.if_icmp .ge 22, 3) := by decide +kernel
theorem dX6_layOutSearch_59 : decode cX6_layOutSearch 59 = .ok (.aload_n 0, 1) := by decide +kernel
theorem dX6_layOutSearch_60 : decode cX6_layOutSearch 60 = .ok (.getfield 14, 3) := by decide +kernel
theorem dX6_layOutSearch_63 : decode cX6_layOutSearch 63 = .ok (.aload_n 0, 1) := by decide +kernel
theorem dX6_layOutSearch_64 : decode cX6_layOutSearch 64 = .ok (.iload 4, 2) := by decide +kernel
theorem dX6_layOutSearch_66 : decode cX6_layOutSearch 66 = .ok (.invokevirtual 91, 3) := by decide +kernel
theorem dX6_layOutSearch_69 : decode cX6_layOutSearch 69 = .ok (.invokevirtual 88, 3) := by decide +kernel
theorem dX6_layOutSearch_72 : decode cX6_layOutSearch 72 = .ok (.iinc 4 1, 3) := by decide +kernel
theorem dX6_layOutSearch_75 : decode cX6_layOutSearch 75 = .ok (.goto (-22), 3) := by decide +kernel
theorem dX6_layOutSearch_78 : decode cX6_layOutSearch 78 = .ok (.aload_n 0, 1) := by decide +kernel
theorem dX6_layOutSearch_79 : decode cX6_layOutSearch 79 = .ok (.getfield 14, 3) := by decide +kernel
theorem dX6_layOutSearch_82 : decode cX6_layOutSearch 82 = .ok (.aload_n 0, 1) := by decide +kernel
theorem dX6_layOutSearch_83 : decode cX6_layOutSearch 83 = .ok (.iload_n 2, 1) := by decide +kernel
theorem dX6_layOutSearch_84 : decode cX6_layOutSearch 84 = .ok (.invokevirtual 91, 3) := by decide +kernel
theorem dX6_layOutSearch_87 : decode cX6_layOutSearch 87 = .ok (.iload_n 3, 1) := by decide +kernel
theorem dX6_layOutSearch_88 : decode cX6_layOutSearch 88 = .ok (.invokevirtual 41, 3) := by decide +kernel
theorem dX6_layOutSearch_91 : decode cX6_layOutSearch 91 = .ok (.return_, 1) := by decide +kernel
theorem dX6_learn_0 : decode cX6_learn 0 = .ok (.aload_n 0, 1) := by decide +kernel
theorem dX6_learn_1 : decode cX6_learn 1 = .ok (.getfield 73, 3) := by decide +kernel
theorem dX6_learn_4 : decode cX6_learn 4 = .ok (.aload_n 0, 1) := by decide +kernel
theorem dX6_learn_5 : decode cX6_learn 5 = .ok (.getfield 73, 3) := by decide +kernel
theorem dX6_learn_8 : decode cX6_learn 8 = .ok (.bipush 8, 2) := by decide +kernel
theorem dX6_learn_10 : decode cX6_learn 10 = .ok (.idiv, 1) := by decide +kernel
theorem dX6_learn_11 : decode cX6_learn 11 = .ok (.iadd, 1) := by decide +kernel
theorem dX6_learn_12 : decode cX6_learn 12 = .ok (.istore_n 1, 1) := by decide +kernel
theorem dX6_learn_13 : decode cX6_learn 13 = .ok (.iconst 0, 1) := by decide +kernel
theorem dX6_learn_14 : decode cX6_learn 14 = .ok (.istore_n 2, 1) := by decide +kernel
theorem dX6_learn_15 : decode cX6_learn 15 = .ok (.aload_n 0, 1) := by decide +kernel
theorem dX6_learn_16 : decode cX6_learn 16 = .ok (.getfield 73, 3) := by decide +kernel
theorem dX6_learn_19 : decode cX6_learn 19 = .ok (.bipush 40, 2) := by decide +kernel
theorem dX6_learn_21 : decode cX6_learn 21 = .ok (.if_icmp .ge 72, 3) := by decide +kernel
theorem dX6_learn_24 : decode cX6_learn 24 = .ok (.iload_n 2, 1) := by decide +kernel
theorem dX6_learn_25 : decode cX6_learn 25 = .ok (.ifCond .ne 68, 3) := by decide +kernel
theorem dX6_learn_28 : decode cX6_learn 28 = .ok (.aload_n 0, 1) := by decide +kernel
theorem dX6_learn_29 : decode cX6_learn 29 = .ok (.getfield 23, 3) := by decide +kernel
theorem dX6_learn_32 : decode cX6_learn 32 = .ok (.aload_n 0, 1) := by decide +kernel
theorem dX6_learn_33 : decode cX6_learn 33 = .ok (.getfield 73, 3) := by decide +kernel
theorem dX6_learn_36 : decode cX6_learn 36 = .ok (.aload_n 0, 1) := by decide +kernel
theorem dX6_learn_37 : decode cX6_learn 37 = .ok (.getfield 73, 3) := by decide +kernel
theorem dX6_learn_40 : decode cX6_learn 40 = .ok (.bipush 8, 2) := by decide +kernel
theorem dX6_learn_42 : decode cX6_learn 42 = .ok (.idiv, 1) := by decide +kernel
theorem dX6_learn_43 : decode cX6_learn 43 = .ok (.iadd, 1) := by decide +kernel
theorem dX6_learn_44 : decode cX6_learn 44 = .ok (.iload_n 1, 1) := by decide +kernel
theorem dX6_learn_45 : decode cX6_learn 45 = .ok (.isub, 1) := by decide +kernel
theorem dX6_learn_46 : decode cX6_learn 46 = .ok (.invokevirtual 94, 3) := by decide +kernel
theorem dX6_learn_49 : decode cX6_learn 49 = .ok (.istore_n 3, 1) := by decide +kernel
theorem dX6_learn_50 : decode cX6_learn 50 = .ok (.iload_n 3, 1) := by decide +kernel
theorem dX6_learn_51 : decode cX6_learn 51 = .ok (.iconst 2, 1) := by decide +kernel
theorem dX6_learn_52 : decode cX6_learn 52 = .ok (.if_icmp .ne 7, 3) := by decide +kernel
theorem dX6_learn_55 : decode cX6_learn 55 = .ok (.iconst 1, 1) := by decide +kernel
theorem dX6_learn_56 : decode cX6_learn 56 = .ok (.goto 4, 3) := by decide +kernel
theorem dX6_learn_59 : decode cX6_learn 59 = .ok (.iconst 0, 1) := by decide +kernel
theorem dX6_learn_60 : decode cX6_learn 60 = .ok (.istore_n 2, 1) := by decide +kernel
theorem dX6_learn_61 : decode cX6_learn 61 = .ok (.iload_n 3, 1) := by decide +kernel
theorem dX6_learn_62 : decode cX6_learn 62 = .ok (.ifCond .le 18, 3) := by decide +kernel
theorem dX6_learn_65 : decode cX6_learn 65 = .ok (.aload_n 0, 1) := by decide +kernel
theorem dX6_learn_66 : decode cX6_learn 66 = .ok (.dup, 1) := by decide +kernel
theorem dX6_learn_67 : decode cX6_learn 67 = .ok (.getfield 69, 3) := by decide +kernel
theorem dX6_learn_70 : decode cX6_learn 70 = .ok (.lconst 1, 1) := by decide +kernel
theorem dX6_learn_71 : decode cX6_learn 71 = .ok (.aload_n 0, 1) := by decide +kernel
theorem dX6_learn_72 : decode cX6_learn 72 = .ok (.getfield 73, 3) := by decide +kernel
theorem dX6_learn_75 : decode cX6_learn 75 = .ok (.lshl, 1) := by decide +kernel
theorem dX6_learn_76 : decode cX6_learn 76 = .ok (.lor, 1) := by decide +kernel
theorem dX6_learn_77 : decode cX6_learn 77 = .ok (.putfield 69, 3) := by decide +kernel
theorem dX6_learn_80 : decode cX6_learn 80 = .ok (.aload_n 0, 1) := by decide +kernel
theorem dX6_learn_81 : decode cX6_learn 81 = .ok (.dup, 1) := by decide +kernel
theorem dX6_learn_82 : decode cX6_learn 82 = .ok (.getfield 73, 3) := by decide +kernel
theorem dX6_learn_85 : decode cX6_learn 85 = .ok (.iconst 1, 1) := by decide +kernel
theorem dX6_learn_86 : decode cX6_learn 86 = .ok (.iadd, 1) := by decide +kernel
theorem dX6_learn_87 : decode cX6_learn 87 = .ok (.putfield 73, 3) := by decide +kernel
theorem dX6_learn_90 : decode cX6_learn 90 = .ok (.goto (-75), 3) := by decide +kernel
theorem dX6_learn_93 : decode cX6_learn 93 = .ok (.return_, 1) := by decide +kernel
theorem dX6_choose_0 : decode cX6_choose 0 = .ok (.aload_n 0, 1) := by decide +kernel
theorem dX6_choose_1 : decode cX6_choose 1 = .ok (.getfield 14, 3) := by decide +kernel
theorem dX6_choose_4 : decode cX6_choose 4 = .ok (.invokevirtual 38, 3) := by decide +kernel
theorem dX6_choose_7 : decode cX6_choose 7 = .ok (.aload_n 0, 1) := by decide +kernel
theorem dX6_choose_8 : decode cX6_choose 8 = .ok (.getfield 14, 3) := by decide +kernel
theorem dX6_choose_11 : decode cX6_choose 11 = .ok (.iload_n 1, 1) := by decide +kernel
theorem dX6_choose_12 : decode cX6_choose 12 = .ok (.invokestatic 82, 3) := by decide +kernel
theorem dX6_choose_15 : decode cX6_choose 15 = .ok (.invokevirtual 88, 3) := by decide +kernel
theorem dX6_choose_18 : decode cX6_choose 18 = .ok (.aload_n 0, 1) := by decide +kernel
theorem dX6_choose_19 : decode cX6_choose 19 = .ok (.getfield 14, 3) := by decide +kernel
theorem dX6_choose_22 : decode cX6_choose 22 = .ok (.bipush 112, 2) := by decide +kernel
theorem dX6_choose_24 : decode cX6_choose 24 = .ok (.invokevirtual 88, 3) := by decide +kernel
theorem dX6_choose_27 : decode cX6_choose 27 = .ok (.iconst 0, 1) := by decide +kernel
theorem dX6_choose_28 : decode cX6_choose 28 = .ok (.istore_n 3, 1) := by decide +kernel
theorem dX6_choose_29 : decode cX6_choose 29 = .ok (.iload_n 3, 1) := by decide +kernel
theorem dX6_choose_30 : decode cX6_choose 30 = .ok (.iconst 5, 1) := by decide +kernel
theorem dX6_choose_31 : decode cX6_choose 31 = .ok (.if_icmp .ge 21, 3) := by decide +kernel
theorem dX6_choose_34 : decode cX6_choose 34 = .ok (.aload_n 0, 1) := by decide +kernel
theorem dX6_choose_35 : decode cX6_choose 35 = .ok (.getfield 14, 3) := by decide +kernel
theorem dX6_choose_38 : decode cX6_choose 38 = .ok (.aload_n 0, 1) := by decide +kernel
theorem dX6_choose_39 : decode cX6_choose 39 = .ok (.iload_n 3, 1) := by decide +kernel
theorem dX6_choose_40 : decode cX6_choose 40 = .ok (.invokevirtual 91, 3) := by decide +kernel
theorem dX6_choose_43 : decode cX6_choose 43 = .ok (.invokevirtual 88, 3) := by decide +kernel
theorem dX6_choose_46 : decode cX6_choose 46 = .ok (.iinc 3 1, 3) := by decide +kernel
theorem dX6_choose_49 : decode cX6_choose 49 = .ok (.goto (-20), 3) := by decide +kernel
theorem dX6_choose_52 : decode cX6_choose 52 = .ok (.aload_n 0, 1) := by decide +kernel
theorem dX6_choose_53 : decode cX6_choose 53 = .ok (.getfield 14, 3) := by decide +kernel
theorem dX6_choose_56 : decode cX6_choose 56 = .ok (.invokevirtual 97, 3) := by decide +kernel
theorem dX6_choose_59 : decode cX6_choose 59 = .ok (.aload_n 2, 1) := by decide +kernel
theorem dX6_choose_60 : decode cX6_choose 60 = .ok (.aload_n 0, 1) := by decide +kernel
theorem dX6_choose_61 : decode cX6_choose 61 = .ok (.getfield 14, 3) := by decide +kernel
theorem dX6_choose_64 : decode cX6_choose 64 = .ok (.aload_n 0, 1) := by decide +kernel
theorem dX6_choose_65 : decode cX6_choose 65 = .ok (.getfield 23, 3) := by decide +kernel
theorem dX6_choose_68 : decode cX6_choose 68 = .ok (.invokevirtual 45, 3) := by decide +kernel
theorem dX6_choose_71 : decode cX6_choose 71 = .ok (.ifCond .le 7, 3) := by decide +kernel
theorem dX6_choose_74 : decode cX6_choose 74 = .ok (.iconst 1, 1) := by decide +kernel
theorem dX6_choose_75 : decode cX6_choose 75 = .ok (.goto 4, 3) := by decide +kernel
theorem dX6_choose_78 : decode cX6_choose 78 = .ok (.iconst 0, 1) := by decide +kernel
theorem dX6_choose_79 : decode cX6_choose 79 = .ok (.ireturn, 1) := by decide +kernel
theorem dX6_halt_0 : decode cX6_halt 0 = .ok (.aload_n 0, 1) := by decide +kernel
theorem dX6_halt_1 : decode cX6_halt 1 = .ok (.getfield 14, 3) := by decide +kernel
theorem dX6_halt_4 : decode cX6_halt 4 = .ok (.invokevirtual 38, 3) := by decide +kernel
theorem dX6_halt_7 : decode cX6_halt 7 = .ok (.aload_n 0, 1) := by decide +kernel
theorem dX6_halt_8 : decode cX6_halt 8 = .ok (.getfield 14, 3) := by decide +kernel
theorem dX6_halt_11 : decode cX6_halt 11 = .ok (.bipush 80, 2) := by decide +kernel
theorem dX6_halt_13 : decode cX6_halt 13 = .ok (.invokevirtual 88, 3) := by decide +kernel
theorem dX6_halt_16 : decode cX6_halt 16 = .ok (.aload_n 0, 1) := by decide +kernel
theorem dX6_halt_17 : decode cX6_halt 17 = .ok (.getfield 14, 3) := by decide +kernel
theorem dX6_halt_20 : decode cX6_halt 20 = .ok (.iconst 0, 1) := by decide +kernel
theorem dX6_halt_21 : decode cX6_halt 21 = .ok (.invokevirtual 88, 3) := by decide +kernel
theorem dX6_halt_24 : decode cX6_halt 24 = .ok (.aload_n 0, 1) := by decide +kernel
theorem dX6_halt_25 : decode cX6_halt 25 = .ok (.getfield 14, 3) := by decide +kernel
theorem dX6_halt_28 : decode cX6_halt 28 = .ok (.invokevirtual 97, 3) := by decide +kernel
theorem dX6_halt_31 : decode cX6_halt 31 = .ok (.aload_n 1, 1) := by decide +kernel
theorem dX6_halt_32 : decode cX6_halt 32 = .ok (.aload_n 0, 1) := by decide +kernel
theorem dX6_halt_33 : decode cX6_halt 33 = .ok (.getfield 14, 3) := by decide +kernel
theorem dX6_halt_36 : decode cX6_halt 36 = .ok (.aload_n 0, 1) := by decide +kernel
theorem dX6_halt_37 : decode cX6_halt 37 = .ok (.getfield 23, 3) := by decide +kernel
theorem dX6_halt_40 : decode cX6_halt 40 = .ok (.invokevirtual 45, 3) := by decide +kernel
theorem dX6_halt_43 : decode cX6_halt 43 = .ok (.pop, 1) := by decide +kernel
theorem dX6_halt_44 : decode cX6_halt 44 = .ok (.return_, 1) := by decide +kernel
theorem dX6_knownByte_0 : decode cX6_knownByte 0 = .ok (.aload_n 0, 1) := by decide +kernel
theorem dX6_knownByte_1 : decode cX6_knownByte 1 = .ok (.getfield 69, 3) := by decide +kernel
theorem dX6_knownByte_4 : decode cX6_knownByte 4 = .ok (.bipush 8, 2) := by decide +kernel
theorem dX6_knownByte_6 : decode cX6_knownByte 6 = .ok (.iload_n 1, 1) := by decide +kernel
theorem dX6_knownByte_7 : decode cX6_knownByte 7 = .ok (.imul, 1) := by decide +kernel
theorem dX6_knownByte_8 : decode cX6_knownByte 8 = .ok (.lushr, 1) := by decide +kernel
theorem dX6_knownByte_9 : decode cX6_knownByte 9 = .ok (.l2i, 1) := by decide +kernel
theorem dX6_knownByte_10 : decode cX6_knownByte 10 = .ok (.sipush 255, 3) := by decide +kernel
theorem dX6_knownByte_13 : decode cX6_knownByte 13 = .ok (.iand, 1) := by decide +kernel
theorem dX6_knownByte_14 : decode cX6_knownByte 14 = .ok (.ireturn, 1) := by decide +kernel
theorem dX6_keepBytes_0 : decode cX6_keepBytes 0 = .ok (.iload_n 1, 1) := by decide +kernel
theorem dX6_keepBytes_1 : decode cX6_keepBytes 1 = .ok (.istore_n 2, 1) := by decide +kernel
theorem dX6_keepBytes_2 : decode cX6_keepBytes 2 = .ok (.iload_n 2, 1) := by decide +kernel
theorem dX6_keepBytes_3 : decode cX6_keepBytes 3 = .ok (.iconst 4, 1) := by decide +kernel
theorem dX6_keepBytes_4 : decode cX6_keepBytes 4 = .ok (.if_icmp .ge 49, 3) := by decide +kernel
theorem dX6_keepBytes_7 : decode cX6_keepBytes 7 = .ok (.aload_n 0, 1) := by decide +kernel
theorem dX6_keepBytes_8 : decode cX6_keepBytes 8 = .ok (.getfield 27, 3) := by decide +kernel
theorem dX6_keepBytes_11 : decode cX6_keepBytes 11 = .ok (.bipush 10, 2) := by decide +kernel
theorem dX6_keepBytes_13 : decode cX6_keepBytes 13 = .ok (.aload_n 0, 1) := by decide +kernel
theorem dX6_keepBytes_14 : decode cX6_keepBytes 14 = .ok (.getfield 34, 3) := by decide +kernel
theorem dX6_keepBytes_17 : decode cX6_keepBytes 17 = .ok (.imul, 1) := by decide +kernel
theorem dX6_keepBytes_18 : decode cX6_keepBytes 18 = .ok (.aload_n 0, 1) := by decide +kernel
theorem dX6_keepBytes_19 : decode cX6_keepBytes 19 = .ok (.getfield 31, 3) := by decide +kernel
theorem dX6_keepBytes_22 : decode cX6_keepBytes 22 = .ok (.aload_n 0, 1) := by decide +kernel
theorem dX6_keepBytes_23 : decode cX6_keepBytes 23 = .ok (.getfield 34, 3) := by decide +kernel
theorem dX6_keepBytes_26 : decode cX6_keepBytes 26 = .ok (.iaload, 1) := by decide +kernel
theorem dX6_keepBytes_27 : decode cX6_keepBytes 27 = .ok (.iadd, 1) := by decide +kernel
theorem dX6_keepBytes_28 : decode cX6_keepBytes 28 = .ok (.aload_n 0, 1) := by decide +kernel
theorem dX6_keepBytes_29 : decode cX6_keepBytes 29 = .ok (.iload_n 2, 1) := by decide +kernel
theorem dX6_keepBytes_30 : decode cX6_keepBytes 30 = .ok (.invokevirtual 91, 3) := by decide +kernel
theorem dX6_keepBytes_33 : decode cX6_keepBytes 33 = .ok (.iastore, 1) := by decide +kernel
theorem dX6_keepBytes_34 : decode cX6_keepBytes 34 = .ok (.aload_n 0, 1) := by decide +kernel
theorem dX6_keepBytes_35 : decode cX6_keepBytes 35 = .ok (.getfield 31, 3) := by decide +kernel
theorem dX6_keepBytes_38 : decode cX6_keepBytes 38 = .ok (.aload_n 0, 1) := by decide +kernel
theorem dX6_keepBytes_39 : decode cX6_keepBytes 39 = .ok (.getfield 34, 3) := by decide +kernel
theorem dX6_keepBytes_42 : decode cX6_keepBytes 42 = .ok (.dup2, 1) := by decide +kernel
theorem dX6_keepBytes_43 : decode cX6_keepBytes 43 = .ok (.iaload, 1) := by decide +kernel
theorem dX6_keepBytes_44 : decode cX6_keepBytes 44 = .ok (.iconst 1, 1) := by decide +kernel
theorem dX6_keepBytes_45 : decode cX6_keepBytes 45 = .ok (.iadd, 1) := by decide +kernel
theorem dX6_keepBytes_46 : decode cX6_keepBytes 46 = .ok (.iastore, 1) := by decide +kernel
theorem dX6_keepBytes_47 : decode cX6_keepBytes 47 = .ok (.iinc 2 1, 3) := by decide +kernel
theorem dX6_keepBytes_50 : decode cX6_keepBytes 50 = .ok (.goto (-48), 3) := by decide +kernel
theorem dX6_keepBytes_53 : decode cX6_keepBytes 53 = .ok (.return_, 1) := by decide +kernel
theorem dX8_init_0 : decode cX8_init 0 = .ok (.aload_n 0, 1) := by decide +kernel
theorem dX8_init_1 : decode cX8_init 1 = .ok (.invokespecial 3, 3) := by decide +kernel
theorem dX8_init_4 : decode cX8_init 4 = .ok (.aload_n 0, 1) := by decide +kernel
theorem dX8_init_5 : decode cX8_init 5 = .ok (.iload_n 1, 1) := by decide +kernel
theorem dX8_init_6 : decode cX8_init 6 = .ok (.newarray .int, 2) := by decide +kernel
theorem dX8_init_8 : decode cX8_init 8 = .ok (.putfield 9, 3) := by decide +kernel
theorem dX8_init_11 : decode cX8_init 11 = .ok (.return_, 1) := by decide +kernel
theorem dX8_clear_0 : decode cX8_clear 0 = .ok (.aload_n 0, 1) := by decide +kernel
theorem dX8_clear_1 : decode cX8_clear 1 = .ok (.iconst 0, 1) := by decide +kernel
theorem dX8_clear_2 : decode cX8_clear 2 = .ok (.putfield 15, 3) := by decide +kernel
theorem dX8_clear_5 : decode cX8_clear 5 = .ok (.return_, 1) := by decide +kernel
theorem dX8_hasRoomFor_0 : decode cX8_hasRoomFor 0 = .ok (.aload_n 0, 1) := by decide +kernel
theorem dX8_hasRoomFor_1 : decode cX8_hasRoomFor 1 = .ok (.getfield 15, 3) := by decide +kernel
theorem dX8_hasRoomFor_4 : decode cX8_hasRoomFor 4 = .ok (.iload_n 1, 1) := by decide +kernel
theorem dX8_hasRoomFor_5 : decode cX8_hasRoomFor 5 = .ok (.iadd, 1) := by decide +kernel
theorem dX8_hasRoomFor_6 : decode cX8_hasRoomFor 6 = .ok (.aload_n 0, 1) := by decide +kernel
theorem dX8_hasRoomFor_7 : decode cX8_hasRoomFor 7 = .ok (.getfield 9, 3) := by decide +kernel
theorem dX8_hasRoomFor_10 : decode cX8_hasRoomFor 10 = .ok (.arraylength, 1) := by decide +kernel
theorem dX8_hasRoomFor_11 : decode cX8_hasRoomFor 11 = .ok (.if_icmp .gt 7, 3) := by decide +kernel
theorem dX8_hasRoomFor_14 : decode cX8_hasRoomFor 14 = .ok (.iconst 1, 1) := by decide +kernel
theorem dX8_hasRoomFor_15 : decode cX8_hasRoomFor 15 = .ok (.goto 4, 3) := by decide +kernel
theorem dX8_hasRoomFor_18 : decode cX8_hasRoomFor 18 = .ok (.iconst 0, 1) := by decide +kernel
theorem dX8_hasRoomFor_19 : decode cX8_hasRoomFor 19 = .ok (.ireturn, 1) := by decide +kernel
theorem dX8_addBits_0 : decode cX8_addBits 0 = .ok (.iconst 0, 1) := by decide +kernel
theorem dX8_addBits_1 : decode cX8_addBits 1 = .ok (.istore_n 3, 1) := by decide +kernel
theorem dX8_addBits_2 : decode cX8_addBits 2 = .ok (.iload_n 3, 1) := by decide +kernel
theorem dX8_addBits_3 : decode cX8_addBits 3 = .ok (.iload_n 2, 1) := by decide +kernel
theorem dX8_addBits_4 : decode cX8_addBits 4 = .ok (.if_icmp .ge 45, 3) := by decide +kernel
theorem dX8_addBits_7 : decode cX8_addBits 7 = .ok (.aload_n 0, 1) := by decide +kernel
theorem dX8_addBits_8 : decode cX8_addBits 8 = .ok (.getfield 15, 3) := by decide +kernel
theorem dX8_addBits_11 : decode cX8_addBits 11 = .ok (.aload_n 0, 1) := by decide +kernel
theorem dX8_addBits_12 : decode cX8_addBits 12 = .ok (.getfield 9, 3) := by decide +kernel
theorem dX8_addBits_15 : decode cX8_addBits 15 = .ok (.arraylength, 1) := by decide +kernel
theorem dX8_addBits_16 : decode cX8_addBits 16 = .ok (.if_icmp .ge 33, 3) := by decide +kernel
theorem dX8_addBits_19 : decode cX8_addBits 19 = .ok (.aload_n 0, 1) := by decide +kernel
theorem dX8_addBits_20 : decode cX8_addBits 20 = .ok (.getfield 9, 3) := by decide +kernel
theorem dX8_addBits_23 : decode cX8_addBits 23 = .ok (.aload_n 0, 1) := by decide +kernel
theorem dX8_addBits_24 : decode cX8_addBits 24 = .ok (.getfield 15, 3) := by decide +kernel
theorem dX8_addBits_27 : decode cX8_addBits 27 = .ok (.iload_n 1, 1) := by decide +kernel
theorem dX8_addBits_28 : decode cX8_addBits 28 = .ok (.iload_n 3, 1) := by decide +kernel
theorem dX8_addBits_29 : decode cX8_addBits 29 = .ok (.iushr, 1) := by decide +kernel
theorem dX8_addBits_30 : decode cX8_addBits 30 = .ok (.iconst 1, 1) := by decide +kernel
theorem dX8_addBits_31 : decode cX8_addBits 31 = .ok (.iand, 1) := by decide +kernel
theorem dX8_addBits_32 : decode cX8_addBits 32 = .ok (.iastore, 1) := by decide +kernel
theorem dX8_addBits_33 : decode cX8_addBits 33 = .ok (.aload_n 0, 1) := by decide +kernel
theorem dX8_addBits_34 : decode cX8_addBits 34 = .ok (.dup, 1) := by decide +kernel
theorem dX8_addBits_35 : decode cX8_addBits 35 = .ok (.getfield 15, 3) := by decide +kernel
theorem dX8_addBits_38 : decode cX8_addBits 38 = .ok (.iconst 1, 1) := by decide +kernel
theorem dX8_addBits_39 : decode cX8_addBits 39 = .ok (.iadd, 1) := by decide +kernel
theorem dX8_addBits_40 : decode cX8_addBits 40 = .ok (.putfield 15, 3) := by decide +kernel
theorem dX8_addBits_43 : decode cX8_addBits 43 = .ok (.iinc 3 1, 3) := by decide +kernel
theorem dX8_addBits_46 : decode cX8_addBits 46 = .ok (.goto (-44), 3) := by decide +kernel
theorem dX8_addBits_49 : decode cX8_addBits 49 = .ok (.return_, 1) := by decide +kernel
theorem dX8_addOctet_0 : decode cX8_addOctet 0 = .ok (.aload_n 0, 1) := by decide +kernel
theorem dX8_addOctet_1 : decode cX8_addOctet 1 = .ok (.iload_n 1, 1) := by decide +kernel
theorem dX8_addOctet_2 : decode cX8_addOctet 2 = .ok (.i2l, 1) := by decide +kernel
theorem dX8_addOctet_3 : decode cX8_addOctet 3 = .ok (.iconst 1, 1) := by decide +kernel
theorem dX8_addOctet_4 : decode cX8_addOctet 4 = .ok (.invokestatic 19, 3) := by decide +kernel
theorem dX8_addOctet_7 : decode cX8_addOctet 7 = .ok (.l2i, 1) := by decide +kernel
theorem dX8_addOctet_8 : decode cX8_addOctet 8 = .ok (.bipush 9, 2) := by decide +kernel
theorem dX8_addOctet_10 : decode cX8_addOctet 10 = .ok (.invokevirtual 25, 3) := by decide +kernel
theorem dX8_addOctet_13 : decode cX8_addOctet 13 = .ok (.return_, 1) := by decide +kernel
theorem dX8_addCheck_0 : decode cX8_addCheck 0 = .ok (.aload_n 0, 1) := by decide +kernel
theorem dX8_addCheck_1 : decode cX8_addCheck 1 = .ok (.aload_n 0, 1) := by decide +kernel
theorem dX8_addCheck_2 : decode cX8_addCheck 2 = .ok (.getfield 15, 3) := by decide +kernel
theorem dX8_addCheck_5 : decode cX8_addCheck 5 = .ok (.bipush 9, 2) := by decide +kernel
theorem dX8_addCheck_7 : decode cX8_addCheck 7 = .ok (.idiv, 1) := by decide +kernel
theorem dX8_addCheck_8 : decode cX8_addCheck 8 = .ok (.invokevirtual 29, 3) := by decide +kernel
theorem dX8_addCheck_11 : decode cX8_addCheck 11 = .ok (.istore_n 1, 1) := by decide +kernel
theorem dX8_addCheck_12 : decode cX8_addCheck 12 = .ok (.aload_n 0, 1) := by decide +kernel
theorem dX8_addCheck_13 : decode cX8_addCheck 13 = .ok (.iload_n 1, 1) := by decide +kernel
theorem dX8_addCheck_14 : decode cX8_addCheck 14 = .ok (.invokevirtual 33, 3) := by decide +kernel
theorem dX8_addCheck_17 : decode cX8_addCheck 17 = .ok (.aload_n 0, 1) := by decide +kernel
theorem dX8_addCheck_18 : decode cX8_addCheck 18 = .ok (.iload_n 1, 1) := by decide +kernel
theorem dX8_addCheck_19 : decode cX8_addCheck 19 = .ok (.bipush 8, 2) := by decide +kernel
theorem dX8_addCheck_21 : decode cX8_addCheck 21 = .ok (.iushr, 1) := by decide +kernel
theorem dX8_addCheck_22 : decode cX8_addCheck 22 = .ok (.invokevirtual 33, 3) := by decide +kernel
theorem dX8_addCheck_25 : decode cX8_addCheck 25 = .ok (.return_, 1) := by decide +kernel
theorem dX8_valueAt_0 : decode cX8_valueAt 0 = .ok (.iconst 0, 1) := by decide +kernel
theorem dX8_valueAt_1 : decode cX8_valueAt 1 = .ok (.istore_n 3, 1) := by decide +kernel
theorem dX8_valueAt_2 : decode cX8_valueAt 2 = .ok (.iconst 0, 1) := by decide +kernel
theorem dX8_valueAt_3 : decode cX8_valueAt 3 = .ok (.istore 4, 2) := by decide +kernel
theorem dX8_valueAt_5 : decode cX8_valueAt 5 = .ok (.iload 4, 2) := by decide +kernel
theorem dX8_valueAt_7 : decode cX8_valueAt 7 = .ok (.iload_n 2, 1) := by decide +kernel
theorem dX8_valueAt_8 : decode cX8_valueAt 8 = .ok (.if_icmp .ge 35, 3) := by decide +kernel
theorem dX8_valueAt_11 : decode cX8_valueAt 11 = .ok (.iload_n 1, 1) := by decide +kernel
theorem dX8_valueAt_12 : decode cX8_valueAt 12 = .ok (.iload 4, 2) := by decide +kernel
theorem dX8_valueAt_14 : decode cX8_valueAt 14 = .ok (.iadd, 1) := by decide +kernel
theorem dX8_valueAt_15 : decode cX8_valueAt 15 = .ok (.aload_n 0, 1) := by decide +kernel
theorem dX8_valueAt_16 : decode cX8_valueAt 16 = .ok (.getfield 15, 3) := by decide +kernel
theorem dX8_valueAt_19 : decode cX8_valueAt 19 = .ok (.if_icmp .ge 24, 3) := by decide +kernel
theorem dX8_valueAt_22 : decode cX8_valueAt 22 = .ok (.iload_n 3, 1) := by decide +kernel
theorem dX8_valueAt_23 : decode cX8_valueAt 23 = .ok (.aload_n 0, 1) := by decide +kernel
theorem dX8_valueAt_24 : decode cX8_valueAt 24 = .ok (.getfield 9, 3) := by decide +kernel
theorem dX8_valueAt_27 : decode cX8_valueAt 27 = .ok (.iload_n 1, 1) := by decide +kernel
theorem dX8_valueAt_28 : decode cX8_valueAt 28 = .ok (.iload 4, 2) := by decide +kernel
theorem dX8_valueAt_30 : decode cX8_valueAt 30 = .ok (.iadd, 1) := by decide +kernel
theorem dX8_valueAt_31 : decode cX8_valueAt 31 = .ok (.iaload, 1) := by decide +kernel
theorem dX8_valueAt_32 : decode cX8_valueAt 32 = .ok (.iload 4, 2) := by decide +kernel
theorem dX8_valueAt_34 : decode cX8_valueAt 34 = .ok (.ishl, 1) := by decide +kernel
theorem dX8_valueAt_35 : decode cX8_valueAt 35 = .ok (.ior, 1) := by decide +kernel
theorem dX8_valueAt_36 : decode cX8_valueAt 36 = .ok (.istore_n 3, 1) := by decide +kernel
theorem dX8_valueAt_37 : decode cX8_valueAt 37 = .ok (.iinc 4 1, 3) := by decide +kernel
theorem dX8_valueAt_40 : decode cX8_valueAt 40 = .ok (.goto (-35), 3) := by decide +kernel
theorem dX8_valueAt_43 : decode cX8_valueAt 43 = .ok (.iload_n 3, 1) := by decide +kernel
theorem dX8_valueAt_44 : decode cX8_valueAt 44 = .ok (.ireturn, 1) := by decide +kernel
theorem dX8_beginsWithOctets_0 : decode cX8_beginsWithOctets 0 = .ok (.iconst 0, 1) := by decide +kernel
theorem dX8_beginsWithOctets_1 : decode cX8_beginsWithOctets 1 = .ok (.istore_n 2, 1) := by decide +kernel
theorem dX8_beginsWithOctets_2 : decode cX8_beginsWithOctets 2 = .ok (.iload_n 2, 1) := by decide +kernel
theorem dX8_beginsWithOctets_3 : decode cX8_beginsWithOctets 3 = .ok (.iload_n 1, 1) := by decide +kernel
theorem dX8_beginsWithOctets_4 : decode cX8_beginsWithOctets 4 = .ok (.if_icmp .ge 29, 3) := by decide +kernel
theorem dX8_beginsWithOctets_7 : decode cX8_beginsWithOctets 7 = .ok (.aload_n 0, 1) := by decide +kernel
theorem dX8_beginsWithOctets_8 : decode cX8_beginsWithOctets 8 = .ok (.bipush 9, 2) := by decide +kernel
theorem dX8_beginsWithOctets_10 : decode cX8_beginsWithOctets 10 = .ok (.iload_n 2, 1) := by decide +kernel
theorem dX8_beginsWithOctets_11 : decode cX8_beginsWithOctets 11 = .ok (.imul, 1) := by decide +kernel
theorem dX8_beginsWithOctets_12 : decode cX8_beginsWithOctets 12 = .ok (.bipush 9, 2) := by decide +kernel
theorem dX8_beginsWithOctets_14 : decode cX8_beginsWithOctets 14 = .ok (.invokevirtual 37, 3) := by decide +kernel
theorem dX8_beginsWithOctets_17 : decode cX8_beginsWithOctets 17 = .ok (.invokestatic 41, 3) := by decide +kernel
theorem dX8_beginsWithOctets_20 : decode cX8_beginsWithOctets 20 = .ok (.iconst 2, 1) := by decide +kernel
theorem dX8_beginsWithOctets_21 : decode cX8_beginsWithOctets 21 = .ok (.irem, 1) := by decide +kernel
theorem dX8_beginsWithOctets_22 : decode cX8_beginsWithOctets 22 = .ok (.ifCond .ne 5, 3) := by decide +kernel
theorem dX8_beginsWithOctets_25 : decode cX8_beginsWithOctets 25 = .ok (.iconst 0, 1) := by decide +kernel
theorem dX8_beginsWithOctets_26 : decode cX8_beginsWithOctets 26 = .ok (.ireturn, 1) := by decide +kernel
theorem dX8_beginsWithOctets_27 : decode cX8_beginsWithOctets 27 = .ok (.iinc 2 1, 3) := by decide +kernel
theorem dX8_beginsWithOctets_30 : decode cX8_beginsWithOctets 30 = .ok (.goto (-28), 3) := by decide +kernel
theorem dX8_beginsWithOctets_33 : decode cX8_beginsWithOctets 33 = .ok (.iconst 1, 1) := by decide +kernel
theorem dX8_beginsWithOctets_34 : decode cX8_beginsWithOctets 34 = .ok (.ireturn, 1) := by decide +kernel
theorem dX8_checkOf_0 : decode cX8_checkOf 0 = .ok (.sipush 25443, 3) := by decide +kernel
theorem dX8_checkOf_3 : decode cX8_checkOf 3 = .ok (.istore_n 2, 1) := by decide +kernel
theorem dX8_checkOf_4 : decode cX8_checkOf 4 = .ok (.iconst 0, 1) := by decide +kernel
theorem dX8_checkOf_5 : decode cX8_checkOf 5 = .ok (.istore_n 3, 1) := by decide +kernel
theorem dX8_checkOf_6 : decode cX8_checkOf 6 = .ok (.iload_n 3, 1) := by decide +kernel
theorem dX8_checkOf_7 : decode cX8_checkOf 7 = .ok (.iload_n 1, 1) := by decide +kernel
theorem dX8_checkOf_8 : decode cX8_checkOf 8 = .ok (.if_icmp .ge 24, 3) := by decide +kernel
theorem dX8_checkOf_11 : decode cX8_checkOf 11 = .ok (.iload_n 2, 1) := by decide +kernel
theorem dX8_checkOf_12 : decode cX8_checkOf 12 = .ok (.aload_n 0, 1) := by decide +kernel
theorem dX8_checkOf_13 : decode cX8_checkOf 13 = .ok (.bipush 9, 2) := by decide +kernel
theorem dX8_checkOf_15 : decode cX8_checkOf 15 = .ok (.iload_n 3, 1) := by decide +kernel
theorem dX8_checkOf_16 : decode cX8_checkOf 16 = .ok (.imul, 1) := by decide +kernel
theorem dX8_checkOf_17 : decode cX8_checkOf 17 = .ok (.bipush 8, 2) := by decide +kernel
theorem dX8_checkOf_19 : decode cX8_checkOf 19 = .ok (.invokevirtual 37, 3) := by decide +kernel
theorem dX8_checkOf_22 : decode cX8_checkOf 22 = .ok (.invokestatic 46, 3) := by decide +kernel
theorem dX8_checkOf_25 : decode cX8_checkOf 25 = .ok (.istore_n 2, 1) := by decide +kernel
theorem dX8_checkOf_26 : decode cX8_checkOf 26 = .ok (.iinc 3 1, 3) := by decide +kernel
theorem dX8_checkOf_29 : decode cX8_checkOf 29 = .ok (.goto (-23), 3) := by decide +kernel
theorem dX8_checkOf_32 : decode cX8_checkOf 32 = .ok (.iload_n 2, 1) := by decide +kernel
theorem dX8_checkOf_33 : decode cX8_checkOf 33 = .ok (.ireturn, 1) := by decide +kernel
