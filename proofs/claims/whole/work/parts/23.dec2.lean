theorem dX9_init_0 : decode cX9_init 0 = .ok (.aload_n 0, 1) := by decide +kernel
theorem dX9_init_1 : decode cX9_init 1 = .ok (.invokespecial 3, 3) := by decide +kernel
theorem dX9_init_4 : decode cX9_init 4 = .ok (.aload_n 0, 1) := by decide +kernel
theorem dX9_init_5 : decode cX9_init 5 = .ok (.iconst 0, 1) := by decide +kernel
theorem dX9_init_6 : decode cX9_init 6 = .ok (.putfield 9, 3) := by decide +kernel
theorem dX9_init_9 : decode cX9_init 9 = .ok (.aload_n 0, 1) := by decide +kernel
theorem dX9_init_10 : decode cX9_init 10 = .ok (.iconst 0, 1) := by decide +kernel
theorem dX9_init_11 : decode cX9_init 11 = .ok (.putfield 15, 3) := by decide +kernel
theorem dX9_init_14 : decode cX9_init 14 = .ok (.aload_n 0, 1) := by decide +kernel
theorem dX9_init_15 : decode cX9_init 15 = .ok (.iconst 1, 1) := by decide +kernel
theorem dX9_init_16 : decode cX9_init 16 = .ok (.putfield 19, 3) := by decide +kernel
theorem dX9_init_19 : decode cX9_init 19 = .ok (.aload_n 0, 1) := by decide +kernel
theorem dX9_init_20 : decode cX9_init 20 = .ok (.iload_n 1, 1) := by decide +kernel
theorem dX9_init_21 : decode cX9_init 21 = .ok (.iconst 1, 1) := by decide +kernel
theorem dX9_init_22 : decode cX9_init 22 = .ok (.isub, 1) := by decide +kernel
theorem dX9_init_23 : decode cX9_init 23 = .ok (.iconst 3, 1) := by decide +kernel
theorem dX9_init_24 : decode cX9_init 24 = .ok (.idiv, 1) := by decide +kernel
theorem dX9_init_25 : decode cX9_init 25 = .ok (.putfield 22, 3) := by decide +kernel
theorem dX9_init_28 : decode cX9_init 28 = .ok (.aload_n 0, 1) := by decide +kernel
theorem dX9_init_29 : decode cX9_init 29 = .ok (.iconst 3, 1) := by decide +kernel
theorem dX9_init_30 : decode cX9_init 30 = .ok (.newarray .long, 2) := by decide +kernel
theorem dX9_init_32 : decode cX9_init 32 = .ok (.putfield 25, 3) := by decide +kernel
theorem dX9_init_35 : decode cX9_init 35 = .ok (.iconst 0, 1) := by decide +kernel
theorem dX9_init_36 : decode cX9_init 36 = .ok (.istore 5, 2) := by decide +kernel
theorem dX9_init_38 : decode cX9_init 38 = .ok (.iload 5, 2) := by decide +kernel
theorem dX9_init_40 : decode cX9_init 40 = .ok (.aload_n 0, 1) := by decide +kernel
theorem dX9_init_41 : decode cX9_init 41 = .ok (.getfield 22, 3) := by decide +kernel
theorem dX9_init_44 : decode cX9_init 44 = .ok (.if_icmp .ge 41, 3) := by decide +kernel
theorem dX9_init_47 : decode cX9_init 47 = .ok (.aload_n 0, 1) := by decide +kernel
theorem dX9_init_48 : decode cX9_init 48 = .ok (.getfield 25, 3) := by decide +kernel
theorem dX9_init_51 : decode cX9_init 51 = .ok (.iload 5, 2) := by decide +kernel
theorem dX9_init_53 : decode cX9_init 53 = .ok (.iload 5, 2) := by decide +kernel
theorem dX9_init_55 : decode cX9_init 55 = .ok (.iload 5, 2) := by decide +kernel
theorem dX9_init_57 : decode cX9_init 57 = .ok (.aload_n 0, 1) := by decide +kernel
theorem dX9_init_58 : decode cX9_init 58 = .ok (.getfield 22, 3) := by decide +kernel
theorem dX9_init_61 : decode cX9_init 61 = .ok (.iconst 1, 1) := by decide +kernel
theorem dX9_init_62 : decode cX9_init 62 = .ok (.isub, 1) := by decide +kernel
theorem dX9_init_63 : decode cX9_init 63 = .ok (.if_icmp .ne 7, 3) := by decide +kernel
theorem dX9_init_66 : decode cX9_init 66 = .ok (.iconst 1, 1) := by decide +kernel
theorem dX9_init_67 : decode cX9_init 67 = .ok (.goto 4, 3) := by decide +kernel
theorem dX9_init_70 : decode cX9_init 70 = .ok (.iconst 0, 1) := by decide +kernel
theorem dX9_init_71 : decode cX9_init 71 = .ok (.iload_n 2, 1) := by decide +kernel
theorem dX9_init_72 : decode cX9_init 72 = .ok (.iload_n 3, 1) := by decide +kernel
theorem dX9_init_73 : decode cX9_init 73 = .ok (.iload 4, 2) := by decide +kernel
theorem dX9_init_75 : decode cX9_init 75 = .ok (.invokestatic 29, 3) := by decide +kernel
theorem dX9_init_78 : decode cX9_init 78 = .ok (.lastore, 1) := by decide +kernel
theorem dX9_init_79 : decode cX9_init 79 = .ok (.iinc 5 1, 3) := by decide +kernel
theorem dX9_init_82 : decode cX9_init 82 = .ok (.goto (-44), 3) := by decide +kernel
theorem dX9_init_85 : decode cX9_init 85 = .ok (.return_, 1) := by decide +kernel
theorem dX9_shownAt_0 : decode cX9_shownAt 0 = .ok (.iload_n 1, 1) := by decide +kernel
theorem dX9_shownAt_1 : decode cX9_shownAt 1 = .ok (.ifCond .eq 7, 3) := by decide +kernel
theorem dX9_shownAt_4 : decode cX9_shownAt 4 = .ok (.lconst 0, 1) := by decide +kernel
theorem dX9_shownAt_5 : decode cX9_shownAt 5 = .ok (.goto 6, 3) := by decide +kernel
theorem dX9_shownAt_8 : decode cX9_shownAt 8 = .ok (.ldc2_w 33, 3) := by decide +kernel
theorem dX9_shownAt_11 : decode cX9_shownAt 11 = .ok (.lstore 5, 2) := by decide +kernel
theorem dX9_shownAt_13 : decode cX9_shownAt 13 = .ok (.iload_n 1, 1) := by decide +kernel
theorem dX9_shownAt_14 : decode cX9_shownAt 14 = .ok (.ifCond .eq 7, 3) := by decide +kernel
theorem dX9_shownAt_17 : decode cX9_shownAt 17 = .ok (.iconst 0, 1) := by decide +kernel
theorem dX9_shownAt_18 : decode cX9_shownAt 18 = .ok (.goto 4, 3) := by decide +kernel
theorem dX9_shownAt_21 : decode cX9_shownAt 21 = .ok (.iconst 1, 1) := by decide +kernel
theorem dX9_shownAt_22 : decode cX9_shownAt 22 = .ok (.istore 7, 2) := by decide +kernel
theorem dX9_shownAt_24 : decode cX9_shownAt 24 = .ok (.iconst 0, 1) := by decide +kernel
theorem dX9_shownAt_25 : decode cX9_shownAt 25 = .ok (.istore 8, 2) := by decide +kernel
theorem dX9_shownAt_27 : decode cX9_shownAt 27 = .ok (.iload 7, 2) := by decide +kernel
theorem dX9_shownAt_29 : decode cX9_shownAt 29 = .ok (.iload 8, 2) := by decide +kernel
theorem dX9_shownAt_31 : decode cX9_shownAt 31 = .ok (.iadd, 1) := by decide +kernel
theorem dX9_shownAt_32 : decode cX9_shownAt 32 = .ok (.iconst 4, 1) := by decide +kernel
theorem dX9_shownAt_33 : decode cX9_shownAt 33 = .ok (.if_icmp .ge 37, 3) := by decide +kernel
theorem dX9_shownAt_36 : decode cX9_shownAt 36 = .ok (.lload 5, 2) := by decide +kernel
theorem dX9_shownAt_38 : decode cX9_shownAt 38 = .ok (.iconst 3, 1) := by decide +kernel
theorem dX9_shownAt_39 : decode cX9_shownAt 39 = .ok (.iload_n 0, 1) := by decide +kernel
theorem dX9_shownAt_40 : decode cX9_shownAt 40 = .ok (.imul, 1) := by decide +kernel
theorem dX9_shownAt_41 : decode cX9_shownAt 41 = .ok (.iload 8, 2) := by decide +kernel
theorem dX9_shownAt_43 : decode cX9_shownAt 43 = .ok (.iadd, 1) := by decide +kernel
theorem dX9_shownAt_44 : decode cX9_shownAt 44 = .ok (.iload_n 2, 1) := by decide +kernel
theorem dX9_shownAt_45 : decode cX9_shownAt 45 = .ok (.iload_n 3, 1) := by decide +kernel
theorem dX9_shownAt_46 : decode cX9_shownAt 46 = .ok (.iload 4, 2) := by decide +kernel
theorem dX9_shownAt_48 : decode cX9_shownAt 48 = .ok (.invokestatic 35, 3) := by decide +kernel
theorem dX9_shownAt_51 : decode cX9_shownAt 51 = .ok (.i2l, 1) := by decide +kernel
theorem dX9_shownAt_52 : decode cX9_shownAt 52 = .ok (.bipush 8, 2) := by decide +kernel
theorem dX9_shownAt_54 : decode cX9_shownAt 54 = .ok (.iload 7, 2) := by decide +kernel
theorem dX9_shownAt_56 : decode cX9_shownAt 56 = .ok (.iload 8, 2) := by decide +kernel
theorem dX9_shownAt_58 : decode cX9_shownAt 58 = .ok (.iadd, 1) := by decide +kernel
theorem dX9_shownAt_59 : decode cX9_shownAt 59 = .ok (.imul, 1) := by decide +kernel
theorem dX9_shownAt_60 : decode cX9_shownAt 60 = .ok (.lshl, 1) := by decide +kernel
theorem dX9_shownAt_61 : decode cX9_shownAt 61 = .ok (.lor, 1) := by decide +kernel
theorem dX9_shownAt_62 : decode cX9_shownAt 62 = .ok (.lstore 5, 2) := by decide +kernel
theorem dX9_shownAt_64 : decode cX9_shownAt 64 = .ok (.iinc 8 1, 3) := by decide +kernel
theorem dX9_shownAt_67 : decode cX9_shownAt 67 = .ok (.goto (-40), 3) := by decide +kernel
theorem dX9_shownAt_70 : decode cX9_shownAt 70 = .ok (.lload 5, 2) := by decide +kernel
theorem dX9_shownAt_72 : decode cX9_shownAt 72 = .ok (.lload 5, 2) := by decide +kernel
theorem dX9_shownAt_74 : decode cX9_shownAt 74 = .ok (.bipush 8, 2) := by decide +kernel
theorem dX9_shownAt_76 : decode cX9_shownAt 76 = .ok (.lushr, 1) := by decide +kernel
theorem dX9_shownAt_77 : decode cX9_shownAt 77 = .ok (.lxor, 1) := by decide +kernel
theorem dX9_shownAt_78 : decode cX9_shownAt 78 = .ok (.lload 5, 2) := by decide +kernel
theorem dX9_shownAt_80 : decode cX9_shownAt 80 = .ok (.bipush 16, 2) := by decide +kernel
theorem dX9_shownAt_82 : decode cX9_shownAt 82 = .ok (.lushr, 1) := by decide +kernel
theorem dX9_shownAt_83 : decode cX9_shownAt 83 = .ok (.lxor, 1) := by decide +kernel
theorem dX9_shownAt_84 : decode cX9_shownAt 84 = .ok (.lload 5, 2) := by decide +kernel
theorem dX9_shownAt_86 : decode cX9_shownAt 86 = .ok (.bipush 24, 2) := by decide +kernel
theorem dX9_shownAt_88 : decode cX9_shownAt 88 = .ok (.lushr, 1) := by decide +kernel
theorem dX9_shownAt_89 : decode cX9_shownAt 89 = .ok (.lxor, 1) := by decide +kernel
theorem dX9_shownAt_90 : decode cX9_shownAt 90 = .ok (.ldc2_w 39, 3) := by decide +kernel
theorem dX9_shownAt_93 : decode cX9_shownAt 93 = .ok (.land, 1) := by decide +kernel
theorem dX9_shownAt_94 : decode cX9_shownAt 94 = .ok (.lstore 8, 2) := by decide +kernel
theorem dX9_shownAt_96 : decode cX9_shownAt 96 = .ok (.lload 5, 2) := by decide +kernel
theorem dX9_shownAt_98 : decode cX9_shownAt 98 = .ok (.lload 8, 2) := by decide +kernel
theorem dX9_shownAt_100 : decode cX9_shownAt 100 = .ok (.bipush 32, 2) := by decide +kernel
theorem dX9_shownAt_102 : decode cX9_shownAt 102 = .ok (.lshl, 1) := by decide +kernel
theorem dX9_shownAt_103 : decode cX9_shownAt 103 = .ok (.lor, 1) := by decide +kernel
theorem dX9_shownAt_104 : decode cX9_shownAt 104 = .ok (.lreturn, 1) := by decide +kernel
theorem dX9_numberByte_0 : decode cX9_numberByte 0 = .ok (.iload_n 0, 1) := by decide +kernel
theorem dX9_numberByte_1 : decode cX9_numberByte 1 = .ok (.iconst 4, 1) := by decide +kernel
theorem dX9_numberByte_2 : decode cX9_numberByte 2 = .ok (.if_icmp .ge 7, 3) := by decide +kernel
theorem dX9_numberByte_5 : decode cX9_numberByte 5 = .ok (.iload_n 1, 1) := by decide +kernel
theorem dX9_numberByte_6 : decode cX9_numberByte 6 = .ok (.goto 14, 3) := by decide +kernel
theorem dX9_numberByte_9 : decode cX9_numberByte 9 = .ok (.iload_n 0, 1) := by decide +kernel
theorem dX9_numberByte_10 : decode cX9_numberByte 10 = .ok (.bipush 8, 2) := by decide +kernel
theorem dX9_numberByte_12 : decode cX9_numberByte 12 = .ok (.if_icmp .ge 7, 3) := by decide +kernel
theorem dX9_numberByte_15 : decode cX9_numberByte 15 = .ok (.iload_n 2, 1) := by decide +kernel
theorem dX9_numberByte_16 : decode cX9_numberByte 16 = .ok (.goto 4, 3) := by decide +kernel
theorem dX9_numberByte_19 : decode cX9_numberByte 19 = .ok (.iload_n 3, 1) := by decide +kernel
theorem dX9_numberByte_20 : decode cX9_numberByte 20 = .ok (.istore 4, 2) := by decide +kernel
theorem dX9_numberByte_22 : decode cX9_numberByte 22 = .ok (.iload 4, 2) := by decide +kernel
theorem dX9_numberByte_24 : decode cX9_numberByte 24 = .ok (.bipush 24, 2) := by decide +kernel
theorem dX9_numberByte_26 : decode cX9_numberByte 26 = .ok (.bipush 8, 2) := by decide +kernel
theorem dX9_numberByte_28 : decode cX9_numberByte 28 = .ok (.iload_n 0, 1) := by decide +kernel
theorem dX9_numberByte_29 : decode cX9_numberByte 29 = .ok (.iconst 4, 1) := by decide +kernel
theorem dX9_numberByte_30 : decode cX9_numberByte 30 = .ok (.irem, 1) := by decide +kernel
theorem dX9_numberByte_31 : decode cX9_numberByte 31 = .ok (.imul, 1) := by decide +kernel
theorem dX9_numberByte_32 : decode cX9_numberByte 32 = .ok (.isub, 1) := by decide +kernel
theorem dX9_numberByte_33 : decode cX9_numberByte 33 = .ok (.iushr, 1) := by decide +kernel
theorem dX9_numberByte_34 : decode cX9_numberByte 34 = .ok (.sipush 255, 3) := by decide +kernel
theorem dX9_numberByte_37 : decode cX9_numberByte 37 = .ok (.iand, 1) := by decide +kernel
theorem dX9_numberByte_38 : decode cX9_numberByte 38 = .ok (.ireturn, 1) := by decide +kernel
theorem dX9_looksUnfinished_0 : decode cX9_looksUnfinished 0 = .ok (.aload_n 0, 1) := by decide +kernel
theorem dX9_looksUnfinished_1 : decode cX9_looksUnfinished 1 = .ok (.getfield 25, 3) := by decide +kernel
theorem dX9_looksUnfinished_4 : decode cX9_looksUnfinished 4 = .ok (.aload_n 0, 1) := by decide +kernel
theorem dX9_looksUnfinished_5 : decode cX9_looksUnfinished 5 = .ok (.getfield 22, 3) := by decide +kernel
theorem dX9_looksUnfinished_8 : decode cX9_looksUnfinished 8 = .ok (.iconst 1, 1) := by decide +kernel
theorem dX9_looksUnfinished_9 : decode cX9_looksUnfinished 9 = .ok (.isub, 1) := by decide +kernel
theorem dX9_looksUnfinished_10 : decode cX9_looksUnfinished 10 = .ok (.laload, 1) := by decide +kernel
theorem dX9_looksUnfinished_11 : decode cX9_looksUnfinished 11 = .ok (.ldc2_w 39, 3) := by decide +kernel
theorem dX9_looksUnfinished_14 : decode cX9_looksUnfinished 14 = .ok (.land, 1) := by decide +kernel
theorem dX9_looksUnfinished_15 : decode cX9_looksUnfinished 15 = .ok (.ldc2_w 33, 3) := by decide +kernel
theorem dX9_looksUnfinished_18 : decode cX9_looksUnfinished 18 = .ok (.lcmp, 1) := by decide +kernel
theorem dX9_looksUnfinished_19 : decode cX9_looksUnfinished 19 = .ok (.ifCond .ne 7, 3) := by decide +kernel
theorem dX9_looksUnfinished_22 : decode cX9_looksUnfinished 22 = .ok (.iconst 1, 1) := by decide +kernel
theorem dX9_looksUnfinished_23 : decode cX9_looksUnfinished 23 = .ok (.goto 4, 3) := by decide +kernel
theorem dX9_looksUnfinished_26 : decode cX9_looksUnfinished 26 = .ok (.iconst 0, 1) := by decide +kernel
theorem dX9_looksUnfinished_27 : decode cX9_looksUnfinished 27 = .ok (.ireturn, 1) := by decide +kernel
theorem dX9_hasNumberOf_0 : decode cX9_hasNumberOf 0 = .ok (.iconst 0, 1) := by decide +kernel
theorem dX9_hasNumberOf_1 : decode cX9_hasNumberOf 1 = .ok (.istore_n 2, 1) := by decide +kernel
theorem dX9_hasNumberOf_2 : decode cX9_hasNumberOf 2 = .ok (.iload_n 2, 1) := by decide +kernel
theorem dX9_hasNumberOf_3 : decode cX9_hasNumberOf 3 = .ok (.iconst 3, 1) := by decide +kernel
theorem dX9_hasNumberOf_4 : decode cX9_hasNumberOf 4 = .ok (.if_icmp .ge 27, 3) := by decide +kernel
theorem dX9_hasNumberOf_7 : decode cX9_hasNumberOf 7 = .ok (.aload_n 0, 1) := by decide +kernel
theorem dX9_hasNumberOf_8 : decode cX9_hasNumberOf 8 = .ok (.getfield 25, 3) := by decide +kernel
theorem dX9_hasNumberOf_11 : decode cX9_hasNumberOf 11 = .ok (.iload_n 2, 1) := by decide +kernel
theorem dX9_hasNumberOf_12 : decode cX9_hasNumberOf 12 = .ok (.laload, 1) := by decide +kernel
theorem dX9_hasNumberOf_13 : decode cX9_hasNumberOf 13 = .ok (.aload_n 1, 1) := by decide +kernel
theorem dX9_hasNumberOf_14 : decode cX9_hasNumberOf 14 = .ok (.getfield 25, 3) := by decide +kernel
theorem dX9_hasNumberOf_17 : decode cX9_hasNumberOf 17 = .ok (.iload_n 2, 1) := by decide +kernel
theorem dX9_hasNumberOf_18 : decode cX9_hasNumberOf 18 = .ok (.laload, 1) := by decide +kernel
theorem dX9_hasNumberOf_19 : decode cX9_hasNumberOf 19 = .ok (.lcmp, 1) := by decide +kernel
theorem dX9_hasNumberOf_20 : decode cX9_hasNumberOf 20 = .ok (.ifCond .eq 5, 3) := by decide +kernel
theorem dX9_hasNumberOf_23 : decode cX9_hasNumberOf 23 = .ok (.iconst 0, 1) := by decide +kernel
theorem dX9_hasNumberOf_24 : decode cX9_hasNumberOf 24 = .ok (.ireturn, 1) := by decide +kernel
theorem dX9_hasNumberOf_25 : decode cX9_hasNumberOf 25 = .ok (.iinc 2 1, 3) := by decide +kernel
theorem dX9_hasNumberOf_28 : decode cX9_hasNumberOf 28 = .ok (.goto (-26), 3) := by decide +kernel
theorem dX9_hasNumberOf_31 : decode cX9_hasNumberOf 31 = .ok (.aload_n 0, 1) := by decide +kernel
theorem dX9_hasNumberOf_32 : decode cX9_hasNumberOf 32 = .ok (.getfield 22, 3) := by decide +kernel
theorem dX9_hasNumberOf_35 : decode cX9_hasNumberOf 35 = .ok (.aload_n 1, 1) := by decide +kernel
theorem dX9_hasNumberOf_36 : decode cX9_hasNumberOf 36 = .ok (.getfield 22, 3) := by decide +kernel
theorem dX9_hasNumberOf_39 : decode cX9_hasNumberOf 39 = .ok (.if_icmp .ne 7, 3) := by decide +kernel
theorem dX9_hasNumberOf_42 : decode cX9_hasNumberOf 42 = .ok (.iconst 1, 1) := by decide +kernel
theorem dX9_hasNumberOf_43 : decode cX9_hasNumberOf 43 = .ok (.goto 4, 3) := by decide +kernel
theorem dX9_hasNumberOf_46 : decode cX9_hasNumberOf 46 = .ok (.iconst 0, 1) := by decide +kernel
theorem dX9_hasNumberOf_47 : decode cX9_hasNumberOf 47 = .ok (.ireturn, 1) := by decide +kernel
theorem dX9_move_0 : decode cX9_move 0 = .ok (.aload_n 0, 1) := by decide +kernel
theorem dX9_move_1 : decode cX9_move 1 = .ok (.getfield 9, 3) := by decide +kernel
theorem dX9_move_4 : decode cX9_move 4 = .ok (.iload_n 1, 1) := by decide +kernel
theorem dX9_move_5 : decode cX9_move 5 = .ok (.if_icmp .ne 5, 3) := by decide +kernel
theorem dX9_move_8 : decode cX9_move 8 = .ok (.iconst 0, 1) := by decide +kernel
theorem dX9_move_9 : decode cX9_move 9 = .ok (.ireturn, 1) := by decide +kernel
theorem dX9_move_10 : decode cX9_move 10 = .ok (.aload_n 0, 1) := by decide +kernel
theorem dX9_move_11 : decode cX9_move 11 = .ok (.iload_n 1, 1) := by decide +kernel
theorem dX9_move_12 : decode cX9_move 12 = .ok (.putfield 9, 3) := by decide +kernel
theorem dX9_move_15 : decode cX9_move 15 = .ok (.aload_n 0, 1) := by decide +kernel
theorem dX9_move_16 : decode cX9_move 16 = .ok (.iload_n 2, 1) := by decide +kernel
theorem dX9_move_17 : decode cX9_move 17 = .ok (.invokevirtual 41, 3) := by decide +kernel
theorem dX9_move_20 : decode cX9_move 20 = .ok (.iconst 1, 1) := by decide +kernel
theorem dX9_move_21 : decode cX9_move 21 = .ok (.ireturn, 1) := by decide +kernel
theorem dX9_beginAnew_0 : decode cX9_beginAnew 0 = .ok (.aload_n 0, 1) := by decide +kernel
theorem dX9_beginAnew_1 : decode cX9_beginAnew 1 = .ok (.iload_n 1, 1) := by decide +kernel
theorem dX9_beginAnew_2 : decode cX9_beginAnew 2 = .ok (.ifCond .eq 14, 3) := by decide +kernel
theorem dX9_beginAnew_5 : decode cX9_beginAnew 5 = .ok (.aload_n 0, 1) := by decide +kernel
theorem dX9_beginAnew_6 : decode cX9_beginAnew 6 = .ok (.getfield 9, 3) := by decide +kernel
theorem dX9_beginAnew_9 : decode cX9_beginAnew 9 = .ok (.ifCond .ne 7, 3) := by decide +kernel
theorem dX9_beginAnew_12 : decode cX9_beginAnew 12 = .ok (.iconst 1, 1) := by decide +kernel
theorem dX9_beginAnew_13 : decode cX9_beginAnew 13 = .ok (.goto 4, 3) := by decide +kernel
theorem dX9_beginAnew_16 : decode cX9_beginAnew 16 = .ok (.iconst 0, 1) := by decide +kernel
theorem dX9_beginAnew_17 : decode cX9_beginAnew 17 = .ok (.putfield 15, 3) := by decide +kernel
theorem dX9_beginAnew_20 : decode cX9_beginAnew 20 = .ok (.return_, 1) := by decide +kernel
theorem dX9_stateAndLevel_0 : decode cX9_stateAndLevel 0 = .ok (.aload_n 0, 1) := by decide +kernel
theorem dX9_stateAndLevel_1 : decode cX9_stateAndLevel 1 = .ok (.getfield 15, 3) := by decide +kernel
theorem dX9_stateAndLevel_4 : decode cX9_stateAndLevel 4 = .ok (.iconst 2, 1) := by decide +kernel
theorem dX9_stateAndLevel_5 : decode cX9_stateAndLevel 5 = .ok (.if_icmp .eq 11, 3) := by decide +kernel
theorem dX9_stateAndLevel_8 : decode cX9_stateAndLevel 8 = .ok (.aload_n 0, 1) := by decide +kernel
theorem dX9_stateAndLevel_9 : decode cX9_stateAndLevel 9 = .ok (.getfield 15, 3) := by decide +kernel
theorem dX9_stateAndLevel_12 : decode cX9_stateAndLevel 12 = .ok (.iconst 5, 1) := by decide +kernel
theorem dX9_stateAndLevel_13 : decode cX9_stateAndLevel 13 = .ok (.if_icmp .ne 7, 3) := by decide +kernel
theorem dX9_stateAndLevel_16 : decode cX9_stateAndLevel 16 = .ok (.iconst 1, 1) := by decide +kernel
theorem dX9_stateAndLevel_17 : decode cX9_stateAndLevel 17 = .ok (.goto 4, 3) := by decide +kernel
theorem dX9_stateAndLevel_20 : decode cX9_stateAndLevel 20 = .ok (.iconst 0, 1) := by decide +kernel
theorem dX9_stateAndLevel_21 : decode cX9_stateAndLevel 21 = .ok (.istore_n 1, 1) := by decide +kernel
theorem dX9_stateAndLevel_22 : decode cX9_stateAndLevel 22 = .ok (.iload_n 1, 1) := by decide +kernel
theorem dX9_stateAndLevel_23 : decode cX9_stateAndLevel 23 = .ok (.ifCond .eq 20, 3) := by decide +kernel
theorem dX9_stateAndLevel_26 : decode cX9_stateAndLevel 26 = .ok (.aload_n 0, 1) := by decide +kernel
theorem dX9_stateAndLevel_27 : decode cX9_stateAndLevel 27 = .ok (.getfield 15, 3) := by decide +kernel
theorem dX9_stateAndLevel_30 : decode cX9_stateAndLevel 30 = .ok (.bipush 10, 2) := by decide +kernel
theorem dX9_stateAndLevel_32 : decode cX9_stateAndLevel 32 = .ok (.aload_n 0, 1) := by decide +kernel
theorem dX9_stateAndLevel_33 : decode cX9_stateAndLevel 33 = .ok (.getfield 19, 3) := by decide +kernel
theorem dX9_stateAndLevel_36 : decode cX9_stateAndLevel 36 = .ok (.iconst 1, 1) := by decide +kernel
theorem dX9_stateAndLevel_37 : decode cX9_stateAndLevel 37 = .ok (.isub, 1) := by decide +kernel
theorem dX9_stateAndLevel_38 : decode cX9_stateAndLevel 38 = .ok (.imul, 1) := by decide +kernel
theorem dX9_stateAndLevel_39 : decode cX9_stateAndLevel 39 = .ok (.iadd, 1) := by decide +kernel
theorem dX9_stateAndLevel_40 : decode cX9_stateAndLevel 40 = .ok (.goto 7, 3) := by decide +kernel
theorem dX9_stateAndLevel_43 : decode cX9_stateAndLevel 43 = .ok (.aload_n 0, 1) := by decide +kernel
theorem dX9_stateAndLevel_44 : decode cX9_stateAndLevel 44 = .ok (.getfield 15, 3) := by decide +kernel
theorem dX9_stateAndLevel_47 : decode cX9_stateAndLevel 47 = .ok (.ireturn, 1) := by decide +kernel
theorem dX9_hear_0 : decode cX9_hear 0 = .ok (.aload_n 0, 1) := by decide +kernel
theorem dX9_hear_1 : decode cX9_hear 1 = .ok (.getfield 15, 3) := by decide +kernel
theorem dX9_hear_4 : decode cX9_hear 4 = .ok (.tableswitch 145 1 7 #[44, 108, 114, 86, 108, 114, 120], 44) := by decide +kernel
theorem dX9_hear_48 : decode cX9_hear 48 = .ok (.aload_n 1, 1) := by decide +kernel
theorem dX9_hear_49 : decode cX9_hear 49 = .ok (.getfield 45, 3) := by decide +kernel
theorem dX9_hear_52 : decode cX9_hear 52 = .ok (.getstatic 51, 3) := by decide +kernel
theorem dX9_hear_55 : decode cX9_hear 55 = .ok (.if_acmp .eq 13, 3) := by decide +kernel
theorem dX9_hear_58 : decode cX9_hear 58 = .ok (.aload_n 1, 1) := by decide +kernel
theorem dX9_hear_59 : decode cX9_hear 59 = .ok (.getfield 45, 3) := by decide +kernel
theorem dX9_hear_62 : decode cX9_hear 62 = .ok (.getstatic 56, 3) := by decide +kernel
theorem dX9_hear_65 : decode cX9_hear 65 = .ok (.if_acmp .ne 7, 3) := by decide +kernel
theorem dX9_hear_68 : decode cX9_hear 68 = .ok (.iconst 1, 1) := by decide +kernel
theorem dX9_hear_69 : decode cX9_hear 69 = .ok (.goto 4, 3) := by decide +kernel
theorem dX9_hear_72 : decode cX9_hear 72 = .ok (.iconst 0, 1) := by decide +kernel
theorem dX9_hear_73 : decode cX9_hear 73 = .ok (.istore_n 2, 1) := by decide +kernel
theorem dX9_hear_74 : decode cX9_hear 74 = .ok (.iload_n 2, 1) := by decide +kernel
theorem dX9_hear_75 : decode cX9_hear 75 = .ok (.ifCond .eq 11, 3) := by decide +kernel
theorem dX9_hear_78 : decode cX9_hear 78 = .ok (.aload_n 0, 1) := by decide +kernel
theorem dX9_hear_79 : decode cX9_hear 79 = .ok (.iconst 2, 1) := by decide +kernel
theorem dX9_hear_80 : decode cX9_hear 80 = .ok (.invokevirtual 59, 3) := by decide +kernel
theorem dX9_hear_83 : decode cX9_hear 83 = .ok (.goto 6, 3) := by decide +kernel
theorem dX9_hear_86 : decode cX9_hear 86 = .ok (.getstatic 63, 3) := by decide +kernel
theorem dX9_hear_89 : decode cX9_hear 89 = .ok (.areturn, 1) := by decide +kernel
theorem dX9_hear_90 : decode cX9_hear 90 = .ok (.aload_n 1, 1) := by decide +kernel
theorem dX9_hear_91 : decode cX9_hear 91 = .ok (.getfield 45, 3) := by decide +kernel
theorem dX9_hear_94 : decode cX9_hear 94 = .ok (.getstatic 56, 3) := by decide +kernel
theorem dX9_hear_97 : decode cX9_hear 97 = .ok (.if_acmp .ne 11, 3) := by decide +kernel
theorem dX9_hear_100 : decode cX9_hear 100 = .ok (.aload_n 0, 1) := by decide +kernel
theorem dX9_hear_101 : decode cX9_hear 101 = .ok (.iconst 5, 1) := by decide +kernel
theorem dX9_hear_102 : decode cX9_hear 102 = .ok (.invokevirtual 59, 3) := by decide +kernel
theorem dX9_hear_105 : decode cX9_hear 105 = .ok (.goto 6, 3) := by decide +kernel
theorem dX9_hear_108 : decode cX9_hear 108 = .ok (.getstatic 63, 3) := by decide +kernel
theorem dX9_hear_111 : decode cX9_hear 111 = .ok (.areturn, 1) := by decide +kernel
theorem dX9_hear_112 : decode cX9_hear 112 = .ok (.aload_n 0, 1) := by decide +kernel
theorem dX9_hear_113 : decode cX9_hear 113 = .ok (.aload_n 1, 1) := by decide +kernel
theorem dX9_hear_114 : decode cX9_hear 114 = .ok (.invokevirtual 69, 3) := by decide +kernel
theorem dX9_hear_117 : decode cX9_hear 117 = .ok (.areturn, 1) := by decide +kernel
theorem dX9_hear_118 : decode cX9_hear 118 = .ok (.aload_n 0, 1) := by decide +kernel
theorem dX9_hear_119 : decode cX9_hear 119 = .ok (.aload_n 1, 1) := by decide +kernel
theorem dX9_hear_120 : decode cX9_hear 120 = .ok (.invokevirtual 73, 3) := by decide +kernel
theorem dX9_hear_123 : decode cX9_hear 123 = .ok (.areturn, 1) := by decide +kernel
theorem dX9_hear_124 : decode cX9_hear 124 = .ok (.aload_n 1, 1) := by decide +kernel
theorem dX9_hear_125 : decode cX9_hear 125 = .ok (.getfield 45, 3) := by decide +kernel
theorem dX9_hear_128 : decode cX9_hear 128 = .ok (.getstatic 76, 3) := by decide +kernel
theorem dX9_hear_131 : decode cX9_hear 131 = .ok (.if_acmp .ne 14, 3) := by decide +kernel
theorem dX9_hear_134 : decode cX9_hear 134 = .ok (.aload_n 0, 1) := by decide +kernel
theorem dX9_hear_135 : decode cX9_hear 135 = .ok (.iconst 4, 1) := by decide +kernel
theorem dX9_hear_136 : decode cX9_hear 136 = .ok (.getstatic 79, 3) := by decide +kernel
theorem dX9_hear_139 : decode cX9_hear 139 = .ok (.invokevirtual 82, 3) := by decide +kernel
theorem dX9_hear_142 : decode cX9_hear 142 = .ok (.goto 6, 3) := by decide +kernel
theorem dX9_hear_145 : decode cX9_hear 145 = .ok (.getstatic 63, 3) := by decide +kernel
theorem dX9_hear_148 : decode cX9_hear 148 = .ok (.areturn, 1) := by decide +kernel
theorem dX9_hear_149 : decode cX9_hear 149 = .ok (.getstatic 63, 3) := by decide +kernel
theorem dX9_hear_152 : decode cX9_hear 152 = .ok (.areturn, 1) := by decide +kernel
theorem dX9_become_0 : decode cX9_become 0 = .ok (.aload_n 0, 1) := by decide +kernel
theorem dX9_become_1 : decode cX9_become 1 = .ok (.iload_n 1, 1) := by decide +kernel
theorem dX9_become_2 : decode cX9_become 2 = .ok (.putfield 15, 3) := by decide +kernel
theorem dX9_become_5 : decode cX9_become 5 = .ok (.aload_n 2, 1) := by decide +kernel
theorem dX9_become_6 : decode cX9_become 6 = .ok (.areturn, 1) := by decide +kernel
theorem dX9_becomeReady_0 : decode cX9_becomeReady 0 = .ok (.aload_n 0, 1) := by decide +kernel
theorem dX9_becomeReady_1 : decode cX9_becomeReady 1 = .ok (.iconst 1, 1) := by decide +kernel
theorem dX9_becomeReady_2 : decode cX9_becomeReady 2 = .ok (.putfield 19, 3) := by decide +kernel
theorem dX9_becomeReady_5 : decode cX9_becomeReady 5 = .ok (.aload_n 0, 1) := by decide +kernel
theorem dX9_becomeReady_6 : decode cX9_becomeReady 6 = .ok (.iload_n 1, 1) := by decide +kernel
theorem dX9_becomeReady_7 : decode cX9_becomeReady 7 = .ok (.getstatic 86, 3) := by decide +kernel
theorem dX9_becomeReady_10 : decode cX9_becomeReady 10 = .ok (.invokevirtual 82, 3) := by decide +kernel
theorem dX9_becomeReady_13 : decode cX9_becomeReady 13 = .ok (.areturn, 1) := by decide +kernel
theorem dX9_hearReady_0 : decode cX9_hearReady 0 = .ok (.aload_n 1, 1) := by decide +kernel
theorem dX9_hearReady_1 : decode cX9_hearReady 1 = .ok (.getfield 89, 3) := by decide +kernel
theorem dX9_hearReady_4 : decode cX9_hearReady 4 = .ok (.aload_n 0, 1) := by decide +kernel
theorem dX9_hearReady_5 : decode cX9_hearReady 5 = .ok (.getfield 19, 3) := by decide +kernel
theorem dX9_hearReady_8 : decode cX9_hearReady 8 = .ok (.if_icmp .ne 7, 3) := by decide +kernel
theorem dX9_hearReady_11 : decode cX9_hearReady 11 = .ok (.iconst 1, 1) := by decide +kernel
theorem dX9_hearReady_12 : decode cX9_hearReady 12 = .ok (.goto 4, 3) := by decide +kernel
theorem dX9_hearReady_15 : decode cX9_hearReady 15 = .ok (.iconst 0, 1) := by decide +kernel
theorem dX9_hearReady_16 : decode cX9_hearReady 16 = .ok (.istore_n 2, 1) := by decide +kernel
theorem dX9_hearReady_17 : decode cX9_hearReady 17 = .ok (.aload_n 1, 1) := by decide +kernel
theorem dX9_hearReady_18 : decode cX9_hearReady 18 = .ok (.getfield 45, 3) := by decide +kernel
theorem dX9_hearReady_21 : decode cX9_hearReady 21 = .ok (.getstatic 90, 3) := by decide +kernel
theorem dX9_hearReady_24 : decode cX9_hearReady 24 = .ok (.if_acmp .ne 25, 3) := by decide +kernel
theorem dX9_hearReady_27 : decode cX9_hearReady 27 = .ok (.iload_n 2, 1) := by decide +kernel
theorem dX9_hearReady_28 : decode cX9_hearReady 28 = .ok (.ifCond .eq 21, 3) := by decide +kernel
theorem dX9_hearReady_31 : decode cX9_hearReady 31 = .ok (.aload_n 0, 1) := by decide +kernel
theorem dX9_hearReady_32 : decode cX9_hearReady 32 = .ok (.aload_n 1, 1) := by decide +kernel
theorem dX9_hearReady_33 : decode cX9_hearReady 33 = .ok (.invokevirtual 93, 3) := by decide +kernel
theorem dX9_hearReady_36 : decode cX9_hearReady 36 = .ok (.ifCond .eq 9, 3) := by decide +kernel
theorem dX9_hearReady_39 : decode cX9_hearReady 39 = .ok (.getstatic 97, 3) := by decide +kernel
theorem dX9_hearReady_42 : decode cX9_hearReady 42 = .ok (.goto 6, 3) := by decide +kernel
theorem dX9_hearReady_45 : decode cX9_hearReady 45 = .ok (.getstatic 63, 3) := by decide +kernel
theorem dX9_hearReady_48 : decode cX9_hearReady 48 = .ok (.areturn, 1) := by decide +kernel
theorem dX9_hearReady_49 : decode cX9_hearReady 49 = .ok (.aload_n 1, 1) := by decide +kernel
theorem dX9_hearReady_50 : decode cX9_hearReady 50 = .ok (.getfield 45, 3) := by decide +kernel
theorem dX9_hearReady_53 : decode cX9_hearReady 53 = .ok (.getstatic 100, 3) := by decide +kernel
theorem dX9_hearReady_56 : decode cX9_hearReady 56 = .ok (.if_acmp .ne 20, 3) := by decide +kernel
theorem dX9_hearReady_59 : decode cX9_hearReady 59 = .ok (.iload_n 2, 1) := by decide +kernel
theorem dX9_hearReady_60 : decode cX9_hearReady 60 = .ok (.ifCond .eq 16, 3) := by decide +kernel
theorem dX9_hearReady_63 : decode cX9_hearReady 63 = .ok (.aload_n 0, 1) := by decide +kernel
theorem dX9_hearReady_64 : decode cX9_hearReady 64 = .ok (.aload_n 1, 1) := by decide +kernel
theorem dX9_hearReady_65 : decode cX9_hearReady 65 = .ok (.invokevirtual 93, 3) := by decide +kernel
theorem dX9_hearReady_68 : decode cX9_hearReady 68 = .ok (.ifCond .eq 8, 3) := by decide +kernel
theorem dX9_hearReady_71 : decode cX9_hearReady 71 = .ok (.aload_n 0, 1) := by decide +kernel
theorem dX9_hearReady_72 : decode cX9_hearReady 72 = .ok (.invokevirtual 103, 3) := by decide +kernel
theorem dX9_hearReady_75 : decode cX9_hearReady 75 = .ok (.areturn, 1) := by decide +kernel
theorem dX9_hearReady_76 : decode cX9_hearReady 76 = .ok (.aload_n 0, 1) := by decide +kernel
theorem dX9_hearReady_77 : decode cX9_hearReady 77 = .ok (.invokevirtual 107, 3) := by decide +kernel
theorem dX9_hearReady_80 : decode cX9_hearReady 80 = .ok (.areturn, 1) := by decide +kernel
theorem dX9_showsWhatIsTold_0 : decode cX9_showsWhatIsTold 0 = .ok (.lconst 1, 1) := by decide +kernel
theorem dX9_showsWhatIsTold_1 : decode cX9_showsWhatIsTold 1 = .ok (.aload_n 1, 1) := by decide +kernel
theorem dX9_showsWhatIsTold_2 : decode cX9_showsWhatIsTold 2 = .ok (.getfield 110, 3) := by decide +kernel
theorem dX9_showsWhatIsTold_5 : decode cX9_showsWhatIsTold 5 = .ok (.lshl, 1) := by decide +kernel
theorem dX9_showsWhatIsTold_6 : decode cX9_showsWhatIsTold 6 = .ok (.lconst 1, 1) := by decide +kernel
theorem dX9_showsWhatIsTold_7 : decode cX9_showsWhatIsTold 7 = .ok (.lsub, 1) := by decide +kernel
theorem dX9_showsWhatIsTold_8 : decode cX9_showsWhatIsTold 8 = .ok (.lstore_n 2, 1) := by decide +kernel
theorem dX9_showsWhatIsTold_9 : decode cX9_showsWhatIsTold 9 = .ok (.aload_n 0, 1) := by decide +kernel
theorem dX9_showsWhatIsTold_10 : decode cX9_showsWhatIsTold 10 = .ok (.getfield 25, 3) := by decide +kernel
theorem dX9_showsWhatIsTold_13 : decode cX9_showsWhatIsTold 13 = .ok (.aload_n 0, 1) := by decide +kernel
theorem dX9_showsWhatIsTold_14 : decode cX9_showsWhatIsTold 14 = .ok (.getfield 19, 3) := by decide +kernel
theorem dX9_showsWhatIsTold_17 : decode cX9_showsWhatIsTold 17 = .ok (.iconst 1, 1) := by decide +kernel
theorem dX9_showsWhatIsTold_18 : decode cX9_showsWhatIsTold 18 = .ok (.isub, 1) := by decide +kernel
theorem dX9_showsWhatIsTold_19 : decode cX9_showsWhatIsTold 19 = .ok (.laload, 1) := by decide +kernel
theorem dX9_showsWhatIsTold_20 : decode cX9_showsWhatIsTold 20 = .ok (.aload_n 1, 1) := by decide +kernel
theorem dX9_showsWhatIsTold_21 : decode cX9_showsWhatIsTold 21 = .ok (.getfield 113, 3) := by decide +kernel
theorem dX9_showsWhatIsTold_24 : decode cX9_showsWhatIsTold 24 = .ok (.lxor, 1) := by decide +kernel
theorem dX9_showsWhatIsTold_25 : decode cX9_showsWhatIsTold 25 = .ok (.lload_n 2, 1) := by decide +kernel
theorem dX9_showsWhatIsTold_26 : decode cX9_showsWhatIsTold 26 = .ok (.land, 1) := by decide +kernel
theorem dX9_showsWhatIsTold_27 : decode cX9_showsWhatIsTold 27 = .ok (.lconst 0, 1) := by decide +kernel
theorem dX9_showsWhatIsTold_28 : decode cX9_showsWhatIsTold 28 = .ok (.lcmp, 1) := by decide +kernel
theorem dX9_showsWhatIsTold_29 : decode cX9_showsWhatIsTold 29 = .ok (.ifCond .ne 7, 3) := by decide +kernel
theorem dX9_showsWhatIsTold_32 : decode cX9_showsWhatIsTold 32 = .ok (.iconst 1, 1) := by decide +kernel
theorem dX9_showsWhatIsTold_33 : decode cX9_showsWhatIsTold 33 = .ok (.goto 4, 3) := by decide +kernel
theorem dX9_showsWhatIsTold_36 : decode cX9_showsWhatIsTold 36 = .ok (.iconst 0, 1) := by decide +kernel
theorem dX9_showsWhatIsTold_37 : decode cX9_showsWhatIsTold 37 = .ok (.ireturn, 1) := by decide +kernel
theorem dX9_becomeChosen_0 : decode cX9_becomeChosen 0 = .ok (.aload_n 0, 1) := by decide +kernel
theorem dX9_becomeChosen_1 : decode cX9_becomeChosen 1 = .ok (.getfield 19, 3) := by decide +kernel
theorem dX9_becomeChosen_4 : decode cX9_becomeChosen 4 = .ok (.aload_n 0, 1) := by decide +kernel
theorem dX9_becomeChosen_5 : decode cX9_becomeChosen 5 = .ok (.getfield 22, 3) := by decide +kernel
theorem dX9_becomeChosen_8 : decode cX9_becomeChosen 8 = .ok (.if_icmp .ge 17, 3) := by decide +kernel
theorem dX9_becomeChosen_11 : decode cX9_becomeChosen 11 = .ok (.aload_n 0, 1) := by decide +kernel
theorem dX9_becomeChosen_12 : decode cX9_becomeChosen 12 = .ok (.dup, 1) := by decide +kernel
theorem dX9_becomeChosen_13 : decode cX9_becomeChosen 13 = .ok (.getfield 19, 3) := by decide +kernel
theorem dX9_becomeChosen_16 : decode cX9_becomeChosen 16 = .ok (.iconst 1, 1) := by decide +kernel
theorem dX9_becomeChosen_17 : decode cX9_becomeChosen 17 = .ok (.iadd, 1) := by decide +kernel
theorem dX9_becomeChosen_18 : decode cX9_becomeChosen 18 = .ok (.putfield 19, 3) := by decide +kernel
theorem dX9_becomeChosen_21 : decode cX9_becomeChosen 21 = .ok (.getstatic 117, 3) := by decide +kernel
theorem dX9_becomeChosen_24 : decode cX9_becomeChosen 24 = .ok (.areturn, 1) := by decide +kernel
theorem dX9_becomeChosen_25 : decode cX9_becomeChosen 25 = .ok (.aload_n 0, 1) := by decide +kernel
theorem dX9_becomeChosen_26 : decode cX9_becomeChosen 26 = .ok (.aload_n 0, 1) := by decide +kernel
theorem dX9_becomeChosen_27 : decode cX9_becomeChosen 27 = .ok (.getfield 15, 3) := by decide +kernel
theorem dX9_becomeChosen_30 : decode cX9_becomeChosen 30 = .ok (.iconst 2, 1) := by decide +kernel
theorem dX9_becomeChosen_31 : decode cX9_becomeChosen 31 = .ok (.if_icmp .ne 7, 3) := by decide +kernel
theorem dX9_becomeChosen_34 : decode cX9_becomeChosen 34 = .ok (.iconst 3, 1) := by decide +kernel
theorem dX9_becomeChosen_35 : decode cX9_becomeChosen 35 = .ok (.goto 5, 3) := by decide +kernel
theorem dX9_becomeChosen_38 : decode cX9_becomeChosen 38 = .ok (.bipush 6, 2) := by decide +kernel
theorem dX9_becomeChosen_40 : decode cX9_becomeChosen 40 = .ok (.putfield 15, 3) := by decide +kernel
theorem dX9_becomeChosen_43 : decode cX9_becomeChosen 43 = .ok (.getstatic 120, 3) := by decide +kernel
theorem dX9_becomeChosen_46 : decode cX9_becomeChosen 46 = .ok (.areturn, 1) := by decide +kernel
theorem dX9_hearActive_0 : decode cX9_hearActive 0 = .ok (.aload_n 1, 1) := by decide +kernel
theorem dX9_hearActive_1 : decode cX9_hearActive 1 = .ok (.getfield 45, 3) := by decide +kernel
theorem dX9_hearActive_4 : decode cX9_hearActive 4 = .ok (.getstatic 123, 3) := by decide +kernel
theorem dX9_hearActive_7 : decode cX9_hearActive 7 = .ok (.if_acmp .ne 12, 3) := by decide +kernel
theorem dX9_hearActive_10 : decode cX9_hearActive 10 = .ok (.aload_n 0, 1) := by decide +kernel
theorem dX9_hearActive_11 : decode cX9_hearActive 11 = .ok (.iconst 4, 1) := by decide +kernel
theorem dX9_hearActive_12 : decode cX9_hearActive 12 = .ok (.getstatic 63, 3) := by decide +kernel
theorem dX9_hearActive_15 : decode cX9_hearActive 15 = .ok (.invokevirtual 82, 3) := by decide +kernel
theorem dX9_hearActive_18 : decode cX9_hearActive 18 = .ok (.areturn, 1) := by decide +kernel
theorem dX9_hearActive_19 : decode cX9_hearActive 19 = .ok (.aload_n 1, 1) := by decide +kernel
theorem dX9_hearActive_20 : decode cX9_hearActive 20 = .ok (.getfield 45, 3) := by decide +kernel
theorem dX9_hearActive_23 : decode cX9_hearActive 23 = .ok (.getstatic 126, 3) := by decide +kernel
theorem dX9_hearActive_26 : decode cX9_hearActive 26 = .ok (.if_acmp .ne 15, 3) := by decide +kernel
theorem dX9_hearActive_29 : decode cX9_hearActive 29 = .ok (.aload_n 0, 1) := by decide +kernel
theorem dX9_hearActive_30 : decode cX9_hearActive 30 = .ok (.bipush 7, 2) := by decide +kernel
theorem dX9_hearActive_32 : decode cX9_hearActive 32 = .ok (.getstatic 129, 3) := by decide +kernel
theorem dX9_hearActive_35 : decode cX9_hearActive 35 = .ok (.invokevirtual 82, 3) := by decide +kernel
theorem dX9_hearActive_38 : decode cX9_hearActive 38 = .ok (.goto 7, 3) := by decide +kernel
theorem dX9_hearActive_41 : decode cX9_hearActive 41 = .ok (.aload_n 0, 1) := by decide +kernel
theorem dX9_hearActive_42 : decode cX9_hearActive 42 = .ok (.invokevirtual 107, 3) := by decide +kernel
theorem dX9_hearActive_45 : decode cX9_hearActive 45 = .ok (.areturn, 1) := by decide +kernel
theorem dX9_goBack_0 : decode cX9_goBack 0 = .ok (.aload_n 0, 1) := by decide +kernel
theorem dX9_goBack_1 : decode cX9_goBack 1 = .ok (.aload_n 0, 1) := by decide +kernel
theorem dX9_goBack_2 : decode cX9_goBack 2 = .ok (.getfield 15, 3) := by decide +kernel
theorem dX9_goBack_5 : decode cX9_goBack 5 = .ok (.iconst 2, 1) := by decide +kernel
theorem dX9_goBack_6 : decode cX9_goBack 6 = .ok (.if_icmp .eq 11, 3) := by decide +kernel
theorem dX9_goBack_9 : decode cX9_goBack 9 = .ok (.aload_n 0, 1) := by decide +kernel
theorem dX9_goBack_10 : decode cX9_goBack 10 = .ok (.getfield 15, 3) := by decide +kernel
theorem dX9_goBack_13 : decode cX9_goBack 13 = .ok (.iconst 3, 1) := by decide +kernel
theorem dX9_goBack_14 : decode cX9_goBack 14 = .ok (.if_icmp .ne 7, 3) := by decide +kernel
theorem dX9_goBack_17 : decode cX9_goBack 17 = .ok (.iconst 1, 1) := by decide +kernel
theorem dX9_goBack_18 : decode cX9_goBack 18 = .ok (.goto 4, 3) := by decide +kernel
theorem dX9_goBack_21 : decode cX9_goBack 21 = .ok (.iconst 4, 1) := by decide +kernel
theorem dX9_goBack_22 : decode cX9_goBack 22 = .ok (.putfield 15, 3) := by decide +kernel
theorem dX9_goBack_25 : decode cX9_goBack 25 = .ok (.getstatic 63, 3) := by decide +kernel
theorem dX9_goBack_28 : decode cX9_goBack 28 = .ok (.areturn, 1) := by decide +kernel
theorem dX9_say_0 : decode cX9_say 0 = .ok (.getstatic 132, 3) := by decide +kernel
theorem dX9_say_3 : decode cX9_say 3 = .ok (.aload_n 1, 1) := by decide +kernel
theorem dX9_say_4 : decode cX9_say 4 = .ok (.invokevirtual 138, 3) := by decide +kernel
theorem dX9_say_7 : decode cX9_say 7 = .ok (.iaload, 1) := by decide +kernel
theorem dX9_say_8 : decode cX9_say 8 = .ok (.tableswitch 190 1 6 #[40, 65, 113, 129, 145, 174], 40) := by decide +kernel
theorem dX9_say_48 : decode cX9_say 48 = .ok (.aload_n 3, 1) := by decide +kernel
theorem dX9_say_49 : decode cX9_say 49 = .ok (.iconst 4, 1) := by decide +kernel
theorem dX9_say_50 : decode cX9_say 50 = .ok (.bipush 64, 2) := by decide +kernel
theorem dX9_say_52 : decode cX9_say 52 = .ok (.aload_n 0, 1) := by decide +kernel
theorem dX9_say_53 : decode cX9_say 53 = .ok (.getfield 22, 3) := by decide +kernel
theorem dX9_say_56 : decode cX9_say 56 = .ok (.iconst 1, 1) := by decide +kernel
theorem dX9_say_57 : decode cX9_say 57 = .ok (.isub, 1) := by decide +kernel
theorem dX9_say_58 : decode cX9_say 58 = .ok (.imul, 1) := by decide +kernel
theorem dX9_say_59 : decode cX9_say 59 = .ok (.iadd, 1) := by decide +kernel
theorem dX9_say_60 : decode cX9_say 60 = .ok (.i2l, 1) := by decide +kernel
theorem dX9_say_61 : decode cX9_say 61 = .ok (.iconst 2, 1) := by decide +kernel
theorem dX9_say_62 : decode cX9_say 62 = .ok (.invokestatic 142, 3) := by decide +kernel
theorem dX9_say_65 : decode cX9_say 65 = .ok (.bipush 18, 2) := by decide +kernel
theorem dX9_say_67 : decode cX9_say 67 = .ok (.invokevirtual 148, 3) := by decide +kernel
theorem dX9_say_70 : decode cX9_say 70 = .ok (.goto 128, 3) := by decide +kernel
theorem dX9_say_73 : decode cX9_say 73 = .ok (.aload_n 2, 1) := by decide +kernel
theorem dX9_say_74 : decode cX9_say 74 = .ok (.getfield 110, 3) := by decide +kernel
theorem dX9_say_77 : decode cX9_say 77 = .ok (.aload_n 2, 1) := by decide +kernel
theorem dX9_say_78 : decode cX9_say 78 = .ok (.getfield 110, 3) := by decide +kernel
theorem dX9_say_81 : decode cX9_say 81 = .ok (.bipush 8, 2) := by decide +kernel
theorem dX9_say_83 : decode cX9_say 83 = .ok (.idiv, 1) := by decide +kernel
theorem dX9_say_84 : decode cX9_say 84 = .ok (.iadd, 1) := by decide +kernel
theorem dX9_say_85 : decode cX9_say 85 = .ok (.istore 4, 2) := by decide +kernel
theorem dX9_say_87 : decode cX9_say 87 = .ok (.aload_n 0, 1) := by decide +kernel
theorem dX9_say_88 : decode cX9_say 88 = .ok (.getfield 25, 3) := by decide +kernel
theorem dX9_say_91 : decode cX9_say 91 = .ok (.aload_n 0, 1) := by decide +kernel
theorem dX9_say_92 : decode cX9_say 92 = .ok (.getfield 19, 3) := by decide +kernel
theorem dX9_say_95 : decode cX9_say 95 = .ok (.iconst 1, 1) := by decide +kernel
theorem dX9_say_96 : decode cX9_say 96 = .ok (.isub, 1) := by decide +kernel
theorem dX9_say_97 : decode cX9_say 97 = .ok (.laload, 1) := by decide +kernel
theorem dX9_say_98 : decode cX9_say 98 = .ok (.iconst 5, 1) := by decide +kernel
theorem dX9_say_99 : decode cX9_say 99 = .ok (.invokestatic 142, 3) := by decide +kernel
theorem dX9_say_102 : decode cX9_say 102 = .ok (.lstore 5, 2) := by decide +kernel
theorem dX9_say_104 : decode cX9_say 104 = .ok (.aload_n 3, 1) := by decide +kernel
theorem dX9_say_105 : decode cX9_say 105 = .ok (.lload 5, 2) := by decide +kernel
theorem dX9_say_107 : decode cX9_say 107 = .ok (.iload 4, 2) := by decide +kernel
theorem dX9_say_109 : decode cX9_say 109 = .ok (.lushr, 1) := by decide +kernel
theorem dX9_say_110 : decode cX9_say 110 = .ok (.bipush 45, 2) := by decide +kernel
theorem dX9_say_112 : decode cX9_say 112 = .ok (.iload 4, 2) := by decide +kernel
theorem dX9_say_114 : decode cX9_say 114 = .ok (.isub, 1) := by decide +kernel
theorem dX9_say_115 : decode cX9_say 115 = .ok (.invokevirtual 148, 3) := by decide +kernel
theorem dX9_say_118 : decode cX9_say 118 = .ok (.goto 80, 3) := by decide +kernel
theorem dX9_say_121 : decode cX9_say 121 = .ok (.aload_n 3, 1) := by decide +kernel
theorem dX9_say_122 : decode cX9_say 122 = .ok (.ldc2_w 154, 3) := by decide +kernel
theorem dX9_say_125 : decode cX9_say 125 = .ok (.iconst 1, 1) := by decide +kernel
theorem dX9_say_126 : decode cX9_say 126 = .ok (.invokestatic 156, 3) := by decide +kernel
theorem dX9_say_129 : decode cX9_say 129 = .ok (.bipush 27, 2) := by decide +kernel
theorem dX9_say_131 : decode cX9_say 131 = .ok (.invokevirtual 148, 3) := by decide +kernel
theorem dX9_say_134 : decode cX9_say 134 = .ok (.goto 64, 3) := by decide +kernel
theorem dX9_say_137 : decode cX9_say 137 = .ok (.aload_n 3, 1) := by decide +kernel
theorem dX9_say_138 : decode cX9_say 138 = .ok (.ldc2_w 159, 3) := by decide +kernel
theorem dX9_say_141 : decode cX9_say 141 = .ok (.iconst 1, 1) := by decide +kernel
theorem dX9_say_142 : decode cX9_say 142 = .ok (.invokestatic 156, 3) := by decide +kernel
theorem dX9_say_145 : decode cX9_say 145 = .ok (.bipush 27, 2) := by decide +kernel
theorem dX9_say_147 : decode cX9_say 147 = .ok (.invokevirtual 148, 3) := by decide +kernel
theorem dX9_say_150 : decode cX9_say 150 = .ok (.goto 48, 3) := by decide +kernel
theorem dX9_say_153 : decode cX9_say 153 = .ok (.sipush 515, 3) := by decide +kernel
theorem dX9_say_156 : decode cX9_say 156 = .ok (.aload_n 2, 1) := by decide +kernel
theorem dX9_say_157 : decode cX9_say 157 = .ok (.getfield 161, 3) := by decide +kernel
theorem dX9_say_160 : decode cX9_say 160 = .ok (.bipush 16, 2) := by decide +kernel
theorem dX9_say_162 : decode cX9_say 162 = .ok (.ishl, 1) := by decide +kernel
theorem dX9_say_163 : decode cX9_say 163 = .ok (.ior, 1) := by decide +kernel
theorem dX9_say_164 : decode cX9_say 164 = .ok (.i2l, 1) := by decide +kernel
theorem dX9_say_165 : decode cX9_say 165 = .ok (.lstore 7, 2) := by decide +kernel
theorem dX9_say_167 : decode cX9_say 167 = .ok (.aload_n 3, 1) := by decide +kernel
theorem dX9_say_168 : decode cX9_say 168 = .ok (.lload 7, 2) := by decide +kernel
theorem dX9_say_170 : decode cX9_say 170 = .ok (.iconst 3, 1) := by decide +kernel
theorem dX9_say_171 : decode cX9_say 171 = .ok (.invokestatic 156, 3) := by decide +kernel
theorem dX9_say_174 : decode cX9_say 174 = .ok (.bipush 45, 2) := by decide +kernel
theorem dX9_say_176 : decode cX9_say 176 = .ok (.invokevirtual 148, 3) := by decide +kernel
theorem dX9_say_179 : decode cX9_say 179 = .ok (.goto 19, 3) := by decide +kernel
theorem dX9_say_182 : decode cX9_say 182 = .ok (.aload_n 3, 1) := by decide +kernel
theorem dX9_say_183 : decode cX9_say 183 = .ok (.ldc2_w 164, 3) := by decide +kernel
theorem dX9_say_186 : decode cX9_say 186 = .ok (.iconst 1, 1) := by decide +kernel
theorem dX9_say_187 : decode cX9_say 187 = .ok (.invokestatic 156, 3) := by decide +kernel
theorem dX9_say_190 : decode cX9_say 190 = .ok (.bipush 27, 2) := by decide +kernel
theorem dX9_say_192 : decode cX9_say 192 = .ok (.invokevirtual 148, 3) := by decide +kernel
theorem dX9_say_195 : decode cX9_say 195 = .ok (.goto 3, 3) := by decide +kernel
theorem dX9_say_198 : decode cX9_say 198 = .ok (.return_, 1) := by decide +kernel
theorem dX10_init_0 : decode cX10_init 0 = .ok (.aload_n 0, 1) := by decide +kernel
theorem dX10_init_1 : decode cX10_init 1 = .ok (.invokespecial 1, 3) := by decide +kernel
theorem dX10_init_4 : decode cX10_init 4 = .ok (.aload_n 0, 1) := by decide +kernel
theorem dX10_init_5 : decode cX10_init 5 = .ok (.new 7, 3) := by decide +kernel
theorem dX10_init_8 : decode cX10_init 8 = .ok (.dup, 1) := by decide +kernel
theorem dX10_init_9 : decode cX10_init 9 = .ok (.sipush 160, 3) := by decide +kernel
theorem dX10_init_12 : decode cX10_init 12 = .ok (.invokespecial 11, 3) := by decide +kernel
theorem dX10_init_15 : decode cX10_init 15 = .ok (.putfield 14, 3) := by decide +kernel
theorem dX10_init_18 : decode cX10_init 18 = .ok (.aload_n 0, 1) := by decide +kernel
theorem dX10_init_19 : decode cX10_init 19 = .ok (.new 18, 3) := by decide +kernel
theorem dX10_init_22 : decode cX10_init 22 = .ok (.dup, 1) := by decide +kernel
theorem dX10_init_23 : decode cX10_init 23 = .ok (.invokespecial 20, 3) := by decide +kernel
theorem dX10_init_26 : decode cX10_init 26 = .ok (.putfield 21, 3) := by decide +kernel
theorem dX10_init_29 : decode cX10_init 29 = .ok (.aload_n 0, 1) := by decide +kernel
theorem dX10_init_30 : decode cX10_init 30 = .ok (.new 25, 3) := by decide +kernel
theorem dX10_init_33 : decode cX10_init 33 = .ok (.dup, 1) := by decide +kernel
theorem dX10_init_34 : decode cX10_init 34 = .ok (.invokespecial 27, 3) := by decide +kernel
theorem dX10_init_37 : decode cX10_init 37 = .ok (.putfield 28, 3) := by decide +kernel
theorem dX10_init_40 : decode cX10_init 40 = .ok (.aload_n 0, 1) := by decide +kernel
theorem dX10_init_41 : decode cX10_init 41 = .ok (.new 32, 3) := by decide +kernel
theorem dX10_init_44 : decode cX10_init 44 = .ok (.dup, 1) := by decide +kernel
theorem dX10_init_45 : decode cX10_init 45 = .ok (.invokespecial 34, 3) := by decide +kernel
theorem dX10_init_48 : decode cX10_init 48 = .ok (.putfield 35, 3) := by decide +kernel
theorem dX10_init_51 : decode cX10_init 51 = .ok (.return_, 1) := by decide +kernel
theorem dX10_tag_0 : decode cX10_tag 0 = .ok (.iload_n 1, 1) := by decide +kernel
theorem dX10_tag_1 : decode cX10_tag 1 = .ok (.iconst 4, 1) := by decide +kernel
theorem dX10_tag_2 : decode cX10_tag 2 = .ok (.if_icmp .eq 18, 3) := by decide +kernel
theorem dX10_tag_5 : decode cX10_tag 5 = .ok (.iload_n 1, 1) := by decide +kernel
theorem dX10_tag_6 : decode cX10_tag 6 = .ok (.bipush 7, 2) := by decide +kernel
theorem dX10_tag_8 : decode cX10_tag 8 = .ok (.if_icmp .eq 12, 3) := by decide +kernel
theorem dX10_tag_11 : decode cX10_tag 11 = .ok (.iload_n 1, 1) := by decide +kernel
theorem dX10_tag_12 : decode cX10_tag 12 = .ok (.bipush 10, 2) := by decide +kernel
theorem dX10_tag_14 : decode cX10_tag 14 = .ok (.if_icmp .eq 6, 3) := by decide +kernel
theorem dX10_tag_17 : decode cX10_tag 17 = .ok (.bipush (-12), 2) := by decide +kernel
theorem dX10_tag_19 : decode cX10_tag 19 = .ok (.ireturn, 1) := by decide +kernel
theorem dX10_tag_20 : decode cX10_tag 20 = .ok (.new 39, 3) := by decide +kernel
theorem dX10_tag_23 : decode cX10_tag 23 = .ok (.dup, 1) := by decide +kernel
theorem dX10_tag_24 : decode cX10_tag 24 = .ok (.iload_n 1, 1) := by decide +kernel
theorem dX10_tag_25 : decode cX10_tag 25 = .ok (.iload_n 2, 1) := by decide +kernel
theorem dX10_tag_26 : decode cX10_tag 26 = .ok (.iload_n 3, 1) := by decide +kernel
theorem dX10_tag_27 : decode cX10_tag 27 = .ok (.iload 4, 2) := by decide +kernel
theorem dX10_tag_29 : decode cX10_tag 29 = .ok (.invokespecial 41, 3) := by decide +kernel
theorem dX10_tag_32 : decode cX10_tag 32 = .ok (.astore 5, 2) := by decide +kernel
theorem dX10_tag_34 : decode cX10_tag 34 = .ok (.aload 5, 2) := by decide +kernel
theorem dX10_tag_36 : decode cX10_tag 36 = .ok (.invokevirtual 44, 3) := by decide +kernel
theorem dX10_tag_39 : decode cX10_tag 39 = .ok (.ifCond .ne 15, 3) := by decide +kernel
theorem dX10_tag_42 : decode cX10_tag 42 = .ok (.aload_n 0, 1) := by decide +kernel
theorem dX10_tag_43 : decode cX10_tag 43 = .ok (.getfield 28, 3) := by decide +kernel
theorem dX10_tag_46 : decode cX10_tag 46 = .ok (.aload 5, 2) := by decide +kernel
theorem dX10_tag_48 : decode cX10_tag 48 = .ok (.invokevirtual 48, 3) := by decide +kernel
theorem dX10_tag_51 : decode cX10_tag 51 = .ok (.ifCond .eq 6, 3) := by decide +kernel
theorem dX10_tag_54 : decode cX10_tag 54 = .ok (.bipush (-13), 2) := by decide +kernel
theorem dX10_tag_56 : decode cX10_tag 56 = .ok (.ireturn, 1) := by decide +kernel
theorem dX10_tag_57 : decode cX10_tag 57 = .ok (.aload_n 0, 1) := by decide +kernel
theorem dX10_tag_58 : decode cX10_tag 58 = .ok (.getfield 28, 3) := by decide +kernel
theorem dX10_tag_61 : decode cX10_tag 61 = .ok (.invokevirtual 52, 3) := by decide +kernel
theorem dX10_tag_64 : decode cX10_tag 64 = .ok (.bipush 16, 2) := by decide +kernel
theorem dX10_tag_66 : decode cX10_tag 66 = .ok (.if_icmp .ge 15, 3) := by decide +kernel
theorem dX10_tag_69 : decode cX10_tag 69 = .ok (.aload_n 0, 1) := by decide +kernel
theorem dX10_tag_70 : decode cX10_tag 70 = .ok (.getfield 28, 3) := by decide +kernel
theorem dX10_tag_73 : decode cX10_tag 73 = .ok (.aload 5, 2) := by decide +kernel
theorem dX10_tag_75 : decode cX10_tag 75 = .ok (.invokevirtual 56, 3) := by decide +kernel
theorem dX10_tag_78 : decode cX10_tag 78 = .ok (.goto 5, 3) := by decide +kernel
theorem dX10_tag_81 : decode cX10_tag 81 = .ok (.bipush (-14), 2) := by decide +kernel
theorem dX10_tag_83 : decode cX10_tag 83 = .ok (.ireturn, 1) := by decide +kernel
theorem dX10_out_0 : decode cX10_out 0 = .ok (.aload_n 0, 1) := by decide +kernel
theorem dX10_out_1 : decode cX10_out 1 = .ok (.getfield 28, 3) := by decide +kernel
theorem dX10_out_4 : decode cX10_out 4 = .ok (.iload_n 1, 1) := by decide +kernel
theorem dX10_out_5 : decode cX10_out 5 = .ok (.invokevirtual 60, 3) := by decide +kernel
theorem dX10_out_8 : decode cX10_out 8 = .ok (.ifCond .eq 15, 3) := by decide +kernel
theorem dX10_out_11 : decode cX10_out 11 = .ok (.aload_n 0, 1) := by decide +kernel
theorem dX10_out_12 : decode cX10_out 12 = .ok (.getfield 28, 3) := by decide +kernel
theorem dX10_out_15 : decode cX10_out 15 = .ok (.iload_n 1, 1) := by decide +kernel
theorem dX10_out_16 : decode cX10_out 16 = .ok (.iload_n 2, 1) := by decide +kernel
theorem dX10_out_17 : decode cX10_out 17 = .ok (.invokevirtual 64, 3) := by decide +kernel
theorem dX10_out_20 : decode cX10_out 20 = .ok (.goto 5, 3) := by decide +kernel
theorem dX10_out_23 : decode cX10_out 23 = .ok (.bipush (-11), 2) := by decide +kernel
theorem dX10_out_25 : decode cX10_out 25 = .ok (.ireturn, 1) := by decide +kernel
theorem dX10_field_0 : decode cX10_field 0 = .ok (.aload_n 0, 1) := by decide +kernel
theorem dX10_field_1 : decode cX10_field 1 = .ok (.getfield 28, 3) := by decide +kernel
theorem dX10_field_4 : decode cX10_field 4 = .ok (.iload_n 1, 1) := by decide +kernel
theorem dX10_field_5 : decode cX10_field 5 = .ok (.invokevirtual 68, 3) := by decide +kernel
theorem dX10_field_8 : decode cX10_field 8 = .ok (.ireturn, 1) := by decide +kernel
theorem dX10_bits_0 : decode cX10_bits 0 = .ok (.iload_n 2, 1) := by decide +kernel
theorem dX10_bits_1 : decode cX10_bits 1 = .ok (.iconst 1, 1) := by decide +kernel
theorem dX10_bits_2 : decode cX10_bits 2 = .ok (.if_icmp .lt 9, 3) := by decide +kernel
theorem dX10_bits_5 : decode cX10_bits 5 = .ok (.iload_n 2, 1) := by decide +kernel
theorem dX10_bits_6 : decode cX10_bits 6 = .ok (.bipush 32, 2) := by decide +kernel
theorem dX10_bits_8 : decode cX10_bits 8 = .ok (.if_icmp .le 6, 3) := by decide +kernel
theorem dX10_bits_11 : decode cX10_bits 11 = .ok (.bipush (-12), 2) := by decide +kernel
theorem dX10_bits_13 : decode cX10_bits 13 = .ok (.ireturn, 1) := by decide +kernel
theorem dX10_bits_14 : decode cX10_bits 14 = .ok (.aload_n 0, 1) := by decide +kernel
theorem dX10_bits_15 : decode cX10_bits 15 = .ok (.getfield 14, 3) := by decide +kernel
theorem dX10_bits_18 : decode cX10_bits 18 = .ok (.iload_n 2, 1) := by decide +kernel
theorem dX10_bits_19 : decode cX10_bits 19 = .ok (.invokevirtual 72, 3) := by decide +kernel
theorem dX10_bits_22 : decode cX10_bits 22 = .ok (.ifCond .ne 6, 3) := by decide +kernel
theorem dX10_bits_25 : decode cX10_bits 25 = .ok (.bipush (-14), 2) := by decide +kernel
theorem dX10_bits_27 : decode cX10_bits 27 = .ok (.ireturn, 1) := by decide +kernel
theorem dX10_bits_28 : decode cX10_bits 28 = .ok (.aload_n 0, 1) := by decide +kernel
theorem dX10_bits_29 : decode cX10_bits 29 = .ok (.getfield 14, 3) := by decide +kernel
theorem dX10_bits_32 : decode cX10_bits 32 = .ok (.iload_n 1, 1) := by decide +kernel
theorem dX10_bits_33 : decode cX10_bits 33 = .ok (.iload_n 2, 1) := by decide +kernel
theorem dX10_bits_34 : decode cX10_bits 34 = .ok (.invokevirtual 75, 3) := by decide +kernel
theorem dX10_bits_37 : decode cX10_bits 37 = .ok (.aload_n 0, 1) := by decide +kernel
theorem dX10_bits_38 : decode cX10_bits 38 = .ok (.getfield 14, 3) := by decide +kernel
theorem dX10_bits_41 : decode cX10_bits 41 = .ok (.getfield 79, 3) := by decide +kernel
theorem dX10_bits_44 : decode cX10_bits 44 = .ok (.ireturn, 1) := by decide +kernel
theorem dX10_octet_0 : decode cX10_octet 0 = .ok (.aload_n 0, 1) := by decide +kernel
theorem dX10_octet_1 : decode cX10_octet 1 = .ok (.getfield 14, 3) := by decide +kernel
theorem dX10_octet_4 : decode cX10_octet 4 = .ok (.bipush 9, 2) := by decide +kernel
theorem dX10_octet_6 : decode cX10_octet 6 = .ok (.invokevirtual 72, 3) := by decide +kernel
theorem dX10_octet_9 : decode cX10_octet 9 = .ok (.ifCond .ne 6, 3) := by decide +kernel
theorem dX10_octet_12 : decode cX10_octet 12 = .ok (.bipush (-14), 2) := by decide +kernel
theorem dX10_octet_14 : decode cX10_octet 14 = .ok (.ireturn, 1) := by decide +kernel
theorem dX10_octet_15 : decode cX10_octet 15 = .ok (.aload_n 0, 1) := by decide +kernel
theorem dX10_octet_16 : decode cX10_octet 16 = .ok (.getfield 14, 3) := by decide +kernel
theorem dX10_octet_19 : decode cX10_octet 19 = .ok (.iload_n 1, 1) := by decide +kernel
theorem dX10_octet_20 : decode cX10_octet 20 = .ok (.invokevirtual 83, 3) := by decide +kernel
theorem dX10_octet_23 : decode cX10_octet 23 = .ok (.aload_n 0, 1) := by decide +kernel
theorem dX10_octet_24 : decode cX10_octet 24 = .ok (.getfield 14, 3) := by decide +kernel
theorem dX10_octet_27 : decode cX10_octet 27 = .ok (.getfield 79, 3) := by decide +kernel
theorem dX10_octet_30 : decode cX10_octet 30 = .ok (.ireturn, 1) := by decide +kernel
theorem dX10_check_0 : decode cX10_check 0 = .ok (.aload_n 0, 1) := by decide +kernel
theorem dX10_check_1 : decode cX10_check 1 = .ok (.getfield 14, 3) := by decide +kernel
theorem dX10_check_4 : decode cX10_check 4 = .ok (.getfield 79, 3) := by decide +kernel
theorem dX10_check_7 : decode cX10_check 7 = .ok (.bipush 9, 2) := by decide +kernel
theorem dX10_check_9 : decode cX10_check 9 = .ok (.idiv, 1) := by decide +kernel
theorem dX10_check_10 : decode cX10_check 10 = .ok (.istore_n 1, 1) := by decide +kernel
theorem dX10_check_11 : decode cX10_check 11 = .ok (.iload_n 1, 1) := by decide +kernel
theorem dX10_check_12 : decode cX10_check 12 = .ok (.iconst 1, 1) := by decide +kernel
theorem dX10_check_13 : decode cX10_check 13 = .ok (.if_icmp .lt 27, 3) := by decide +kernel
theorem dX10_check_16 : decode cX10_check 16 = .ok (.aload_n 0, 1) := by decide +kernel
theorem dX10_check_17 : decode cX10_check 17 = .ok (.getfield 14, 3) := by decide +kernel
theorem dX10_check_20 : decode cX10_check 20 = .ok (.getfield 79, 3) := by decide +kernel
theorem dX10_check_23 : decode cX10_check 23 = .ok (.bipush 9, 2) := by decide +kernel
theorem dX10_check_25 : decode cX10_check 25 = .ok (.irem, 1) := by decide +kernel
theorem dX10_check_26 : decode cX10_check 26 = .ok (.ifCond .ne 14, 3) := by decide +kernel
theorem dX10_check_29 : decode cX10_check 29 = .ok (.aload_n 0, 1) := by decide +kernel
theorem dX10_check_30 : decode cX10_check 30 = .ok (.getfield 14, 3) := by decide +kernel
theorem dX10_check_33 : decode cX10_check 33 = .ok (.iload_n 1, 1) := by decide +kernel
theorem dX10_check_34 : decode cX10_check 34 = .ok (.invokevirtual 86, 3) := by decide +kernel
theorem dX10_check_37 : decode cX10_check 37 = .ok (.ifCond .ne 6, 3) := by decide +kernel
theorem dX10_check_40 : decode cX10_check 40 = .ok (.bipush (-13), 2) := by decide +kernel
theorem dX10_check_42 : decode cX10_check 42 = .ok (.ireturn, 1) := by decide +kernel
theorem dX10_check_43 : decode cX10_check 43 = .ok (.aload_n 0, 1) := by decide +kernel
theorem dX10_check_44 : decode cX10_check 44 = .ok (.getfield 14, 3) := by decide +kernel
theorem dX10_check_47 : decode cX10_check 47 = .ok (.bipush 18, 2) := by decide +kernel
theorem dX10_check_49 : decode cX10_check 49 = .ok (.invokevirtual 72, 3) := by decide +kernel
theorem dX10_check_52 : decode cX10_check 52 = .ok (.ifCond .ne 6, 3) := by decide +kernel
theorem dX10_check_55 : decode cX10_check 55 = .ok (.bipush (-14), 2) := by decide +kernel
theorem dX10_check_57 : decode cX10_check 57 = .ok (.ireturn, 1) := by decide +kernel
theorem dX10_check_58 : decode cX10_check 58 = .ok (.aload_n 0, 1) := by decide +kernel
theorem dX10_check_59 : decode cX10_check 59 = .ok (.getfield 14, 3) := by decide +kernel
theorem dX10_check_62 : decode cX10_check 62 = .ok (.invokevirtual 89, 3) := by decide +kernel
theorem dX10_check_65 : decode cX10_check 65 = .ok (.aload_n 0, 1) := by decide +kernel
theorem dX10_check_66 : decode cX10_check 66 = .ok (.getfield 14, 3) := by decide +kernel
theorem dX10_check_69 : decode cX10_check 69 = .ok (.getfield 79, 3) := by decide +kernel
theorem dX10_check_72 : decode cX10_check 72 = .ok (.ireturn, 1) := by decide +kernel
theorem dX10_go_0 : decode cX10_go 0 = .ok (.aload_n 0, 1) := by decide +kernel
theorem dX10_go_1 : decode cX10_go 1 = .ok (.getfield 28, 3) := by decide +kernel
theorem dX10_go_4 : decode cX10_go 4 = .ok (.aload_n 0, 1) := by decide +kernel
theorem dX10_go_5 : decode cX10_go 5 = .ok (.getfield 14, 3) := by decide +kernel
theorem dX10_go_8 : decode cX10_go 8 = .ok (.aload_n 0, 1) := by decide +kernel
theorem dX10_go_9 : decode cX10_go 9 = .ok (.getfield 21, 3) := by decide +kernel
theorem dX10_go_12 : decode cX10_go 12 = .ok (.invokevirtual 92, 3) := by decide +kernel
theorem dX10_go_15 : decode cX10_go 15 = .ok (.istore_n 1, 1) := by decide +kernel
theorem dX10_go_16 : decode cX10_go 16 = .ok (.aload_n 0, 1) := by decide +kernel
theorem dX10_go_17 : decode cX10_go 17 = .ok (.getfield 14, 3) := by decide +kernel
theorem dX10_go_20 : decode cX10_go 20 = .ok (.invokevirtual 96, 3) := by decide +kernel
theorem dX10_go_23 : decode cX10_go 23 = .ok (.iload_n 1, 1) := by decide +kernel
theorem dX10_go_24 : decode cX10_go 24 = .ok (.ireturn, 1) := by decide +kernel
theorem dX10_answer_0 : decode cX10_answer 0 = .ok (.aload_n 0, 1) := by decide +kernel
theorem dX10_answer_1 : decode cX10_answer 1 = .ok (.getfield 21, 3) := by decide +kernel
theorem dX10_answer_4 : decode cX10_answer 4 = .ok (.iload_n 1, 1) := by decide +kernel
theorem dX10_answer_5 : decode cX10_answer 5 = .ok (.invokevirtual 99, 3) := by decide +kernel
theorem dX10_answer_8 : decode cX10_answer 8 = .ok (.ireturn, 1) := by decide +kernel
theorem dX10_state_0 : decode cX10_state 0 = .ok (.aload_n 0, 1) := by decide +kernel
theorem dX10_state_1 : decode cX10_state 1 = .ok (.getfield 28, 3) := by decide +kernel
theorem dX10_state_4 : decode cX10_state 4 = .ok (.iload_n 1, 1) := by decide +kernel
theorem dX10_state_5 : decode cX10_state 5 = .ok (.invokevirtual 60, 3) := by decide +kernel
theorem dX10_state_8 : decode cX10_state 8 = .ok (.ifCond .eq 14, 3) := by decide +kernel
theorem dX10_state_11 : decode cX10_state 11 = .ok (.aload_n 0, 1) := by decide +kernel
theorem dX10_state_12 : decode cX10_state 12 = .ok (.getfield 28, 3) := by decide +kernel
theorem dX10_state_15 : decode cX10_state 15 = .ok (.iload_n 1, 1) := by decide +kernel
theorem dX10_state_16 : decode cX10_state 16 = .ok (.invokevirtual 103, 3) := by decide +kernel
theorem dX10_state_19 : decode cX10_state 19 = .ok (.goto 5, 3) := by decide +kernel
theorem dX10_state_22 : decode cX10_state 22 = .ok (.bipush (-11), 2) := by decide +kernel
theorem dX10_state_24 : decode cX10_state 24 = .ok (.ireturn, 1) := by decide +kernel
theorem dX10_round_0 : decode cX10_round 0 = .ok (.aload_n 0, 1) := by decide +kernel
theorem dX10_round_1 : decode cX10_round 1 = .ok (.getfield 35, 3) := by decide +kernel
theorem dX10_round_4 : decode cX10_round 4 = .ok (.invokevirtual 106, 3) := by decide +kernel
theorem dX10_round_7 : decode cX10_round 7 = .ok (.iconst 0, 1) := by decide +kernel
theorem dX10_round_8 : decode cX10_round 8 = .ok (.istore_n 1, 1) := by decide +kernel
theorem dX10_round_9 : decode cX10_round 9 = .ok (.iload_n 1, 1) := by decide +kernel
theorem dX10_round_10 : decode cX10_round 10 = .ok (.bipush 40, 2) := by decide +kernel
theorem dX10_round_12 : decode cX10_round 12 = .ok (.if_icmp .ge 26, 3) := by decide +kernel
theorem dX10_round_15 : decode cX10_round 15 = .ok (.aload_n 0, 1) := by decide +kernel
theorem dX10_round_16 : decode cX10_round 16 = .ok (.getfield 35, 3) := by decide +kernel
theorem dX10_round_19 : decode cX10_round 19 = .ok (.aload_n 0, 1) := by decide +kernel
theorem dX10_round_20 : decode cX10_round 20 = .ok (.getfield 28, 3) := by decide +kernel
theorem dX10_round_23 : decode cX10_round 23 = .ok (.invokevirtual 109, 3) := by decide +kernel
theorem dX10_round_26 : decode cX10_round 26 = .ok (.ifCond .ne 6, 3) := by decide +kernel
theorem dX10_round_29 : decode cX10_round 29 = .ok (.goto 9, 3) := by decide +kernel
theorem dX10_round_32 : decode cX10_round 32 = .ok (.iinc 1 1, 3) := by decide +kernel
theorem dX10_round_35 : decode cX10_round 35 = .ok (.goto (-26), 3) := by decide +kernel
theorem dX10_round_38 : decode cX10_round 38 = .ok (.aload_n 0, 1) := by decide +kernel
theorem dX10_round_39 : decode cX10_round 39 = .ok (.getfield 35, 3) := by decide +kernel
theorem dX10_round_42 : decode cX10_round 42 = .ok (.getfield 113, 3) := by decide +kernel
theorem dX10_round_45 : decode cX10_round 45 = .ok (.ireturn, 1) := by decide +kernel
theorem dX10_found_0 : decode cX10_found 0 = .ok (.aload_n 0, 1) := by decide +kernel
theorem dX10_found_1 : decode cX10_found 1 = .ok (.getfield 35, 3) := by decide +kernel
theorem dX10_found_4 : decode cX10_found 4 = .ok (.iload_n 1, 1) := by decide +kernel
theorem dX10_found_5 : decode cX10_found 5 = .ok (.iload_n 2, 1) := by decide +kernel
theorem dX10_found_6 : decode cX10_found 6 = .ok (.invokevirtual 115, 3) := by decide +kernel
theorem dX10_found_9 : decode cX10_found 9 = .ok (.ireturn, 1) := by decide +kernel
theorem dX10_frames_0 : decode cX10_frames 0 = .ok (.aload_n 0, 1) := by decide +kernel
theorem dX10_frames_1 : decode cX10_frames 1 = .ok (.getfield 28, 3) := by decide +kernel
theorem dX10_frames_4 : decode cX10_frames 4 = .ok (.getfield 119, 3) := by decide +kernel
theorem dX10_frames_7 : decode cX10_frames 7 = .ok (.ireturn, 1) := by decide +kernel
theorem dJx29ce0_ordinal_8abf5_0 : decode cJx29ce0_ordinal_8abf5 0 = .ok (.aload_n 0, 1) := by decide +kernel
theorem dJx29ce0_ordinal_8abf5_1 : decode cJx29ce0_ordinal_8abf5 1 = .ok (.getfield 7, 3) := by decide +kernel
theorem dJx29ce0_ordinal_8abf5_4 : decode cJx29ce0_ordinal_8abf5 4 = .ok (.ireturn, 1) := by decide +kernel
theorem dJ6_bitCount_0f7a4_0 : decode cJ6_bitCount_0f7a4 0 = .ok (.iload_n 0, 1) := by decide +kernel
theorem dJ6_bitCount_0f7a4_1 : decode cJ6_bitCount_0f7a4 1 = .ok (.iload_n 0, 1) := by decide +kernel
theorem dJ6_bitCount_0f7a4_2 : decode cJ6_bitCount_0f7a4 2 = .ok (.iconst 1, 1) := by decide +kernel
theorem dJ6_bitCount_0f7a4_3 : decode cJ6_bitCount_0f7a4 3 = .ok (.iushr, 1) := by decide +kernel
theorem dJ6_bitCount_0f7a4_4 : decode cJ6_bitCount_0f7a4 4 = .ok (.ldc_w 265, 3) := by decide +kernel
theorem dJ6_bitCount_0f7a4_7 : decode cJ6_bitCount_0f7a4 7 = .ok (.iand, 1) := by decide +kernel
theorem dJ6_bitCount_0f7a4_8 : decode cJ6_bitCount_0f7a4 8 = .ok (.isub, 1) := by decide +kernel
theorem dJ6_bitCount_0f7a4_9 : decode cJ6_bitCount_0f7a4 9 = .ok (.istore_n 0, 1) := by decide +kernel
theorem dJ6_bitCount_0f7a4_10 : decode cJ6_bitCount_0f7a4 10 = .ok (.iload_n 0, 1) := by decide +kernel
theorem dJ6_bitCount_0f7a4_11 : decode cJ6_bitCount_0f7a4 11 = .ok (.ldc_w 266, 3) := by decide +kernel
theorem dJ6_bitCount_0f7a4_14 : decode cJ6_bitCount_0f7a4 14 = .ok (.iand, 1) := by decide +kernel
theorem dJ6_bitCount_0f7a4_15 : decode cJ6_bitCount_0f7a4 15 = .ok (.iload_n 0, 1) := by decide +kernel
theorem dJ6_bitCount_0f7a4_16 : decode cJ6_bitCount_0f7a4 16 = .ok (.iconst 2, 1) := by decide +kernel
theorem dJ6_bitCount_0f7a4_17 : decode cJ6_bitCount_0f7a4 17 = .ok (.iushr, 1) := by decide +kernel
theorem dJ6_bitCount_0f7a4_18 : decode cJ6_bitCount_0f7a4 18 = .ok (.ldc_w 266, 3) := by decide +kernel
theorem dJ6_bitCount_0f7a4_21 : decode cJ6_bitCount_0f7a4 21 = .ok (.iand, 1) := by decide +kernel
theorem dJ6_bitCount_0f7a4_22 : decode cJ6_bitCount_0f7a4 22 = .ok (.iadd, 1) := by decide +kernel
theorem dJ6_bitCount_0f7a4_23 : decode cJ6_bitCount_0f7a4 23 = .ok (.istore_n 0, 1) := by decide +kernel
theorem dJ6_bitCount_0f7a4_24 : decode cJ6_bitCount_0f7a4 24 = .ok (.iload_n 0, 1) := by decide +kernel
theorem dJ6_bitCount_0f7a4_25 : decode cJ6_bitCount_0f7a4 25 = .ok (.iload_n 0, 1) := by decide +kernel
theorem dJ6_bitCount_0f7a4_26 : decode cJ6_bitCount_0f7a4 26 = .ok (.iconst 4, 1) := by decide +kernel
theorem dJ6_bitCount_0f7a4_27 : decode cJ6_bitCount_0f7a4 27 = .ok (.iushr, 1) := by decide +kernel
theorem dJ6_bitCount_0f7a4_28 : decode cJ6_bitCount_0f7a4 28 = .ok (.iadd, 1) := by decide +kernel
theorem dJ6_bitCount_0f7a4_29 : decode cJ6_bitCount_0f7a4 29 = .ok (.ldc_w 267, 3) := by decide +kernel
theorem dJ6_bitCount_0f7a4_32 : decode cJ6_bitCount_0f7a4 32 = .ok (.iand, 1) := by decide +kernel
theorem dJ6_bitCount_0f7a4_33 : decode cJ6_bitCount_0f7a4 33 = .ok (.istore_n 0, 1) := by decide +kernel
theorem dJ6_bitCount_0f7a4_34 : decode cJ6_bitCount_0f7a4 34 = .ok (.iload_n 0, 1) := by decide +kernel
theorem dJ6_bitCount_0f7a4_35 : decode cJ6_bitCount_0f7a4 35 = .ok (.iload_n 0, 1) := by decide +kernel
theorem dJ6_bitCount_0f7a4_36 : decode cJ6_bitCount_0f7a4 36 = .ok (.bipush 8, 2) := by decide +kernel
theorem dJ6_bitCount_0f7a4_38 : decode cJ6_bitCount_0f7a4 38 = .ok (.iushr, 1) := by decide +kernel
theorem dJ6_bitCount_0f7a4_39 : decode cJ6_bitCount_0f7a4 39 = .ok (.iadd, 1) := by decide +kernel
theorem dJ6_bitCount_0f7a4_40 : decode cJ6_bitCount_0f7a4 40 = .ok (.istore_n 0, 1) := by decide +kernel
theorem dJ6_bitCount_0f7a4_41 : decode cJ6_bitCount_0f7a4 41 = .ok (.iload_n 0, 1) := by decide +kernel
theorem dJ6_bitCount_0f7a4_42 : decode cJ6_bitCount_0f7a4 42 = .ok (.iload_n 0, 1) := by decide +kernel
theorem dJ6_bitCount_0f7a4_43 : decode cJ6_bitCount_0f7a4 43 = .ok (.bipush 16, 2) := by decide +kernel
theorem dJ6_bitCount_0f7a4_45 : decode cJ6_bitCount_0f7a4 45 = .ok (.iushr, 1) := by decide +kernel
theorem dJ6_bitCount_0f7a4_46 : decode cJ6_bitCount_0f7a4 46 = .ok (.iadd, 1) := by decide +kernel
theorem dJ6_bitCount_0f7a4_47 : decode cJ6_bitCount_0f7a4 47 = .ok (.istore_n 0, 1) := by decide +kernel
theorem dJ6_bitCount_0f7a4_48 : decode cJ6_bitCount_0f7a4 48 = .ok (.iload_n 0, 1) := by decide +kernel
theorem dJ6_bitCount_0f7a4_49 : decode cJ6_bitCount_0f7a4 49 = .ok (.bipush 63, 2) := by decide +kernel
theorem dJ6_bitCount_0f7a4_51 : decode cJ6_bitCount_0f7a4 51 = .ok (.iand, 1) := by decide +kernel
theorem dJ6_bitCount_0f7a4_52 : decode cJ6_bitCount_0f7a4 52 = .ok (.ireturn, 1) := by decide +kernel
theorem dJ13_bitCount_95d88_0 : decode cJ13_bitCount_95d88 0 = .ok (.lload_n 0, 1) := by decide +kernel
theorem dJ13_bitCount_95d88_1 : decode cJ13_bitCount_95d88 1 = .ok (.lload_n 0, 1) := by decide +kernel
theorem dJ13_bitCount_95d88_2 : decode cJ13_bitCount_95d88 2 = .ok (.iconst 1, 1) := by decide +kernel
theorem dJ13_bitCount_95d88_3 : decode cJ13_bitCount_95d88 3 = .ok (.lushr, 1) := by decide +kernel
theorem dJ13_bitCount_95d88_4 : decode cJ13_bitCount_95d88 4 = .ok (.ldc2_w 314, 3) := by decide +kernel
theorem dJ13_bitCount_95d88_7 : decode cJ13_bitCount_95d88 7 = .ok (.land, 1) := by decide +kernel
theorem dJ13_bitCount_95d88_8 : decode cJ13_bitCount_95d88 8 = .ok (.lsub, 1) := by decide +kernel
theorem dJ13_bitCount_95d88_9 : decode cJ13_bitCount_95d88 9 = .ok (.lstore_n 0, 1) := by decide +kernel
theorem dJ13_bitCount_95d88_10 : decode cJ13_bitCount_95d88 10 = .ok (.lload_n 0, 1) := by decide +kernel
theorem dJ13_bitCount_95d88_11 : decode cJ13_bitCount_95d88 11 = .ok (.ldc2_w 316, 3) := by decide +kernel
theorem dJ13_bitCount_95d88_14 : decode cJ13_bitCount_95d88 14 = .ok (.land, 1) := by decide +kernel
theorem dJ13_bitCount_95d88_15 : decode cJ13_bitCount_95d88 15 = .ok (.lload_n 0, 1) := by decide +kernel
theorem dJ13_bitCount_95d88_16 : decode cJ13_bitCount_95d88 16 = .ok (.iconst 2, 1) := by decide +kernel
theorem dJ13_bitCount_95d88_17 : decode cJ13_bitCount_95d88 17 = .ok (.lushr, 1) := by decide +kernel
theorem dJ13_bitCount_95d88_18 : decode cJ13_bitCount_95d88 18 = .ok (.ldc2_w 316, 3) := by decide +kernel
theorem dJ13_bitCount_95d88_21 : decode cJ13_bitCount_95d88 21 = .ok (.land, 1) := by decide +kernel
theorem dJ13_bitCount_95d88_22 : decode cJ13_bitCount_95d88 22 = .ok (.ladd, 1) := by decide +kernel
theorem dJ13_bitCount_95d88_23 : decode cJ13_bitCount_95d88 23 = .ok (.lstore_n 0, 1) := by decide +kernel
theorem dJ13_bitCount_95d88_24 : decode cJ13_bitCount_95d88 24 = .ok (.lload_n 0, 1) := by decide +kernel
theorem dJ13_bitCount_95d88_25 : decode cJ13_bitCount_95d88 25 = .ok (.lload_n 0, 1) := by decide +kernel
theorem dJ13_bitCount_95d88_26 : decode cJ13_bitCount_95d88 26 = .ok (.iconst 4, 1) := by decide +kernel
theorem dJ13_bitCount_95d88_27 : decode cJ13_bitCount_95d88 27 = .ok (.lushr, 1) := by decide +kernel
theorem dJ13_bitCount_95d88_28 : decode cJ13_bitCount_95d88 28 = .ok (.ladd, 1) := by decide +kernel
theorem dJ13_bitCount_95d88_29 : decode cJ13_bitCount_95d88 29 = .ok (.ldc2_w 318, 3) := by decide +kernel
theorem dJ13_bitCount_95d88_32 : decode cJ13_bitCount_95d88 32 = .ok (.land, 1) := by decide +kernel
theorem dJ13_bitCount_95d88_33 : decode cJ13_bitCount_95d88 33 = .ok (.lstore_n 0, 1) := by decide +kernel
theorem dJ13_bitCount_95d88_34 : decode cJ13_bitCount_95d88 34 = .ok (.lload_n 0, 1) := by decide +kernel
theorem dJ13_bitCount_95d88_35 : decode cJ13_bitCount_95d88 35 = .ok (.lload_n 0, 1) := by decide +kernel
theorem dJ13_bitCount_95d88_36 : decode cJ13_bitCount_95d88 36 = .ok (.bipush 8, 2) := by decide +kernel
theorem dJ13_bitCount_95d88_38 : decode cJ13_bitCount_95d88 38 = .ok (.lushr, 1) := by decide +kernel
theorem dJ13_bitCount_95d88_39 : decode cJ13_bitCount_95d88 39 = .ok (.ladd, 1) := by decide +kernel
theorem dJ13_bitCount_95d88_40 : decode cJ13_bitCount_95d88 40 = .ok (.lstore_n 0, 1) := by decide +kernel
theorem dJ13_bitCount_95d88_41 : decode cJ13_bitCount_95d88 41 = .ok (.lload_n 0, 1) := by decide +kernel
theorem dJ13_bitCount_95d88_42 : decode cJ13_bitCount_95d88 42 = .ok (.lload_n 0, 1) := by decide +kernel
theorem dJ13_bitCount_95d88_43 : decode cJ13_bitCount_95d88 43 = .ok (.bipush 16, 2) := by decide +kernel
theorem dJ13_bitCount_95d88_45 : decode cJ13_bitCount_95d88 45 = .ok (.lushr, 1) := by decide +kernel
theorem dJ13_bitCount_95d88_46 : decode cJ13_bitCount_95d88 46 = .ok (.ladd, 1) := by decide +kernel
theorem dJ13_bitCount_95d88_47 : decode cJ13_bitCount_95d88 47 = .ok (.lstore_n 0, 1) := by decide +kernel
theorem dJ13_bitCount_95d88_48 : decode cJ13_bitCount_95d88 48 = .ok (.lload_n 0, 1) := by decide +kernel
theorem dJ13_bitCount_95d88_49 : decode cJ13_bitCount_95d88 49 = .ok (.lload_n 0, 1) := by decide +kernel
theorem dJ13_bitCount_95d88_50 : decode cJ13_bitCount_95d88 50 = .ok (.bipush 32, 2) := by decide +kernel
theorem dJ13_bitCount_95d88_52 : decode cJ13_bitCount_95d88 52 = .ok (.lushr, 1) := by decide +kernel
theorem dJ13_bitCount_95d88_53 : decode cJ13_bitCount_95d88 53 = .ok (.ladd, 1) := by decide +kernel
theorem dJ13_bitCount_95d88_54 : decode cJ13_bitCount_95d88 54 = .ok (.lstore_n 0, 1) := by decide +kernel
theorem dJ13_bitCount_95d88_55 : decode cJ13_bitCount_95d88 55 = .ok (.lload_n 0, 1) := by decide +kernel
theorem dJ13_bitCount_95d88_56 : decode cJ13_bitCount_95d88 56 = .ok (.l2i, 1) := by decide +kernel
theorem dJ13_bitCount_95d88_57 : decode cJ13_bitCount_95d88 57 = .ok (.bipush 127, 2) := by decide +kernel
theorem dJ13_bitCount_95d88_59 : decode cJ13_bitCount_95d88 59 = .ok (.iand, 1) := by decide +kernel
theorem dJ13_bitCount_95d88_60 : decode cJ13_bitCount_95d88 60 = .ok (.ireturn, 1) := by decide +kernel
theorem dJ9_max_7cf53_0 : decode cJ9_max_7cf53 0 = .ok (.iload_n 0, 1) := by decide +kernel
theorem dJ9_max_7cf53_1 : decode cJ9_max_7cf53 1 = .ok (.iload_n 1, 1) := by decide +kernel
theorem dJ9_max_7cf53_2 : decode cJ9_max_7cf53 2 = .ok (.if_icmp .lt 7, 3) := by decide +kernel
theorem dJ9_max_7cf53_5 : decode cJ9_max_7cf53 5 = .ok (.iload_n 0, 1) := by decide +kernel
theorem dJ9_max_7cf53_6 : decode cJ9_max_7cf53 6 = .ok (.goto 4, 3) := by decide +kernel
theorem dJ9_max_7cf53_9 : decode cJ9_max_7cf53 9 = .ok (.iload_n 1, 1) := by decide +kernel
theorem dJ9_max_7cf53_10 : decode cJ9_max_7cf53 10 = .ok (.ireturn, 1) := by decide +kernel
theorem dJ9_min_7cf53_0 : decode cJ9_min_7cf53 0 = .ok (.iload_n 0, 1) := by decide +kernel
theorem dJ9_min_7cf53_1 : decode cJ9_min_7cf53 1 = .ok (.iload_n 1, 1) := by decide +kernel
theorem dJ9_min_7cf53_2 : decode cJ9_min_7cf53 2 = .ok (.if_icmp .gt 7, 3) := by decide +kernel
theorem dJ9_min_7cf53_5 : decode cJ9_min_7cf53 5 = .ok (.iload_n 0, 1) := by decide +kernel
theorem dJ9_min_7cf53_6 : decode cJ9_min_7cf53 6 = .ok (.goto 4, 3) := by decide +kernel
theorem dJ9_min_7cf53_9 : decode cJ9_min_7cf53 9 = .ok (.iload_n 1, 1) := by decide +kernel
theorem dJ9_min_7cf53_10 : decode cJ9_min_7cf53 10 = .ok (.ireturn, 1) := by decide +kernel
theorem dJxa1e45_init_da8c8_0 : decode cJxa1e45_init_da8c8 0 = .ok (.aload_n 0, 1) := by decide +kernel
theorem dJxa1e45_init_da8c8_1 : decode cJxa1e45_init_da8c8 1 = .ok (.invokespecial 1, 3) := by decide +kernel
theorem dJxa1e45_init_da8c8_4 : decode cJxa1e45_init_da8c8 4 = .ok (.return_, 1) := by decide +kernel
theorem dJxc12de_init_da8c8_0 : decode cJxc12de_init_da8c8 0 = .ok (.aload_n 0, 1) := by decide +kernel
theorem dJxc12de_init_da8c8_1 : decode cJxc12de_init_da8c8 1 = .ok (.invokespecial 1, 3) := by decide +kernel
theorem dJxc12de_init_da8c8_4 : decode cJxc12de_init_da8c8 4 = .ok (.aload_n 0, 1) := by decide +kernel
theorem dJxc12de_init_da8c8_5 : decode cJxc12de_init_da8c8 5 = .ok (.iconst 0, 1) := by decide +kernel
theorem dJxc12de_init_da8c8_6 : decode cJxc12de_init_da8c8 6 = .ok (.putfield 7, 3) := by decide +kernel
theorem dJxc12de_init_da8c8_9 : decode cJxc12de_init_da8c8 9 = .ok (.return_, 1) := by decide +kernel
theorem dJx4a65c_init_da8c8_0 : decode cJx4a65c_init_da8c8 0 = .ok (.aload_n 0, 1) := by decide +kernel
theorem dJx4a65c_init_da8c8_1 : decode cJx4a65c_init_da8c8 1 = .ok (.invokespecial 1, 3) := by decide +kernel
theorem dJx4a65c_init_da8c8_4 : decode cJx4a65c_init_da8c8 4 = .ok (.aload_n 0, 1) := by decide +kernel
theorem dJx4a65c_init_da8c8_5 : decode cJx4a65c_init_da8c8 5 = .ok (.getstatic 39, 3) := by decide +kernel
theorem dJx4a65c_init_da8c8_8 : decode cJx4a65c_init_da8c8 8 = .ok (.putfield 9, 3) := by decide +kernel
theorem dJx4a65c_init_da8c8_11 : decode cJx4a65c_init_da8c8 11 = .ok (.return_, 1) := by decide +kernel
theorem dJx4a65c_grow_92f84_0 : decode cJx4a65c_grow_92f84 0 = .ok (.aload_n 0, 1) := by decide +kernel
theorem dJx4a65c_grow_92f84_1 : decode cJx4a65c_grow_92f84 1 = .ok (.getfield 9, 3) := by decide +kernel
theorem dJx4a65c_grow_92f84_4 : decode cJx4a65c_grow_92f84 4 = .ok (.arraylength, 1) := by decide +kernel
theorem dJx4a65c_grow_92f84_5 : decode cJx4a65c_grow_92f84 5 = .ok (.istore_n 2, 1) := by decide +kernel
theorem dJx4a65c_grow_92f84_6 : decode cJx4a65c_grow_92f84 6 = .ok (.iload_n 2, 1) := by decide +kernel
theorem dJx4a65c_grow_92f84_7 : decode cJx4a65c_grow_92f84 7 = .ok (.ifCond .gt 13, 3) := by decide +kernel
theorem dJx4a65c_grow_92f84_10 : decode cJx4a65c_grow_92f84 10 = .ok (.aload_n 0, 1) := by decide +kernel
theorem dJx4a65c_grow_92f84_11 : decode cJx4a65c_grow_92f84 11 = .ok (.getfield 9, 3) := by decide +kernel
theorem dJx4a65c_grow_92f84_14 : decode cJx4a65c_grow_92f84 14 = .ok (.getstatic 39, 3) := by decide +kernel
theorem dJx4a65c_grow_92f84_17 : decode cJx4a65c_grow_92f84 17 = .ok (.if_acmp .eq 28, 3) := by decide +kernel
theorem dJx4a65c_grow_92f84_20 : decode cJx4a65c_grow_92f84 20 = .ok (.iload_n 2, 1) := by decide +kernel
theorem dJx4a65c_grow_92f84_21 : decode cJx4a65c_grow_92f84 21 = .ok (.iload_n 1, 1) := by decide +kernel
theorem dJx4a65c_grow_92f84_22 : decode cJx4a65c_grow_92f84 22 = .ok (.iload_n 2, 1) := by decide +kernel
theorem dJx4a65c_grow_92f84_23 : decode cJx4a65c_grow_92f84 23 = .ok (.isub, 1) := by decide +kernel
theorem dJx4a65c_grow_92f84_24 : decode cJx4a65c_grow_92f84 24 = .ok (.iload_n 2, 1) := by decide +kernel
theorem dJx4a65c_grow_92f84_25 : decode cJx4a65c_grow_92f84 25 = .ok (.iconst 1, 1) := by decide +kernel
theorem dJx4a65c_grow_92f84_26 : decode cJx4a65c_grow_92f84 26 = .ok (.ishr, 1) := by decide +kernel
theorem dJx4a65c_grow_92f84_27 : decode cJx4a65c_grow_92f84 27 = .ok (.invokestatic 73, 3) := by decide +kernel
theorem dJx4a65c_grow_92f84_30 : decode cJx4a65c_grow_92f84 30 = .ok (.istore_n 3, 1) := by decide +kernel
theorem dJx4a65c_grow_92f84_31 : decode cJx4a65c_grow_92f84 31 = .ok (.aload_n 0, 1) := by decide +kernel
theorem dJx4a65c_grow_92f84_32 : decode cJx4a65c_grow_92f84 32 = .ok (.aload_n 0, 1) := by decide +kernel
theorem dJx4a65c_grow_92f84_33 : decode cJx4a65c_grow_92f84 33 = .ok (.getfield 9, 3) := by decide +kernel
theorem dJx4a65c_grow_92f84_36 : decode cJx4a65c_grow_92f84 36 = .ok (.iload_n 3, 1) := by decide +kernel
theorem dJx4a65c_grow_92f84_37 : decode cJx4a65c_grow_92f84 37 = .ok (.invokestatic 66, 3) := by decide +kernel
theorem dJx4a65c_grow_92f84_40 : decode cJx4a65c_grow_92f84 40 = .ok (.dup_x1, 1) := by decide +kernel
theorem dJx4a65c_grow_92f84_41 : decode cJx4a65c_grow_92f84 41 = .ok (.putfield 9, 3) := by decide +kernel
theorem dJx4a65c_grow_92f84_44 : decode cJx4a65c_grow_92f84 44 = .ok (.areturn, 1) := by decide +kernel
theorem dJx4a65c_grow_92f84_45 : decode cJx4a65c_grow_92f84 45 = .ok (.aload_n 0, 1) := by decide +kernel
theorem dJx4a65c_grow_92f84_46 : decode cJx4a65c_grow_92f84 46 = .ok (.bipush 10, 2) := by decide +kernel
theorem dJx4a65c_grow_92f84_48 : decode cJx4a65c_grow_92f84 48 = .ok (.iload_n 1, 1) := by decide +kernel
theorem dJx4a65c_grow_92f84_49 : decode cJx4a65c_grow_92f84 49 = .ok (.invokestatic 79, 3) := by decide +kernel
theorem dJx4a65c_grow_92f84_52 : decode cJx4a65c_grow_92f84 52 = .ok (.anewarray 7, 3) := by decide +kernel
theorem dJx4a65c_grow_92f84_55 : decode cJx4a65c_grow_92f84 55 = .ok (.dup_x1, 1) := by decide +kernel
theorem dJx4a65c_grow_92f84_56 : decode cJx4a65c_grow_92f84 56 = .ok (.putfield 9, 3) := by decide +kernel
theorem dJx4a65c_grow_92f84_59 : decode cJx4a65c_grow_92f84 59 = .ok (.areturn, 1) := by decide +kernel
theorem dJx4a65c_grow_d5877_0 : decode cJx4a65c_grow_d5877 0 = .ok (.aload_n 0, 1) := by decide +kernel
theorem dJx4a65c_grow_d5877_1 : decode cJx4a65c_grow_d5877 1 = .ok (.aload_n 0, 1) := by decide +kernel
theorem dJx4a65c_grow_d5877_2 : decode cJx4a65c_grow_d5877 2 = .ok (.getfield 48, 3) := by decide +kernel
theorem dJx4a65c_grow_d5877_5 : decode cJx4a65c_grow_d5877 5 = .ok (.iconst 1, 1) := by decide +kernel
theorem dJx4a65c_grow_d5877_6 : decode cJx4a65c_grow_d5877 6 = .ok (.iadd, 1) := by decide +kernel
theorem dJx4a65c_grow_d5877_7 : decode cJx4a65c_grow_d5877 7 = .ok (.invokevirtual 69, 3) := by decide +kernel
theorem dJx4a65c_grow_d5877_10 : decode cJx4a65c_grow_d5877 10 = .ok (.areturn, 1) := by decide +kernel
theorem dJx4a65c_size_8abf5_0 : decode cJx4a65c_size_8abf5 0 = .ok (.aload_n 0, 1) := by decide +kernel
theorem dJx4a65c_size_8abf5_1 : decode cJx4a65c_size_8abf5 1 = .ok (.getfield 48, 3) := by decide +kernel
theorem dJx4a65c_size_8abf5_4 : decode cJx4a65c_size_8abf5 4 = .ok (.ireturn, 1) := by decide +kernel
theorem dJx4a65c_elementData_915e3_0 : decode cJx4a65c_elementData_915e3 0 = .ok (.aload_n 0, 1) := by decide +kernel
theorem dJx4a65c_elementData_915e3_1 : decode cJx4a65c_elementData_915e3 1 = .ok (.getfield 9, 3) := by decide +kernel
theorem dJx4a65c_elementData_915e3_4 : decode cJx4a65c_elementData_915e3 4 = .ok (.iload_n 1, 1) := by decide +kernel
theorem dJx4a65c_elementData_915e3_5 : decode cJx4a65c_elementData_915e3 5 = .ok (.aaload, 1) := by decide +kernel
theorem dJx4a65c_elementData_915e3_6 : decode cJx4a65c_elementData_915e3 6 = .ok (.areturn, 1) := by decide +kernel
theorem dJx4a65c_get_915e3_0 : decode cJx4a65c_get_915e3 0 = .ok (.iload_n 1, 1) := by decide +kernel
theorem dJx4a65c_get_915e3_1 : decode cJx4a65c_get_915e3 1 = .ok (.aload_n 0, 1) := by decide +kernel
theorem dJx4a65c_get_915e3_2 : decode cJx4a65c_get_915e3 2 = .ok (.getfield 48, 3) := by decide +kernel
theorem dJx4a65c_get_915e3_5 : decode cJx4a65c_get_915e3 5 = .ok (.invokestatic 118, 3) := by decide +kernel
theorem dJx4a65c_get_915e3_8 : decode cJx4a65c_get_915e3 8 = .ok (.pop, 1) := by decide +kernel
theorem dJx4a65c_get_915e3_9 : decode cJx4a65c_get_915e3 9 = .ok (.aload_n 0, 1) := by decide +kernel
theorem dJx4a65c_get_915e3_10 : decode cJx4a65c_get_915e3 10 = .ok (.iload_n 1, 1) := by decide +kernel
theorem dJx4a65c_get_915e3_11 : decode cJx4a65c_get_915e3 11 = .ok (.invokevirtual 123, 3) := by decide +kernel
theorem dJx4a65c_get_915e3_14 : decode cJx4a65c_get_915e3 14 = .ok (.areturn, 1) := by decide +kernel
theorem dJx4a65c_add_72be8_0 : decode cJx4a65c_add_72be8 0 = .ok (.iload_n 3, 1) := by decide +kernel
theorem dJx4a65c_add_72be8_1 : decode cJx4a65c_add_72be8 1 = .ok (.aload_n 2, 1) := by decide +kernel
theorem dJx4a65c_add_72be8_2 : decode cJx4a65c_add_72be8 2 = .ok (.arraylength, 1) := by decide +kernel
theorem dJx4a65c_add_72be8_3 : decode cJx4a65c_add_72be8 3 = .ok (.if_icmp .ne 8, 3) := by decide +kernel
theorem dJx4a65c_add_72be8_6 : decode cJx4a65c_add_72be8 6 = .ok (.aload_n 0, 1) := by decide +kernel
theorem dJx4a65c_add_72be8_7 : decode cJx4a65c_add_72be8 7 = .ok (.invokevirtual 129, 3) := by decide +kernel
theorem dJx4a65c_add_72be8_10 : decode cJx4a65c_add_72be8 10 = .ok (.astore_n 2, 1) := by decide +kernel
theorem dJx4a65c_add_72be8_11 : decode cJx4a65c_add_72be8 11 = .ok (.aload_n 2, 1) := by decide +kernel
theorem dJx4a65c_add_72be8_12 : decode cJx4a65c_add_72be8 12 = .ok (.iload_n 3, 1) := by decide +kernel
theorem dJx4a65c_add_72be8_13 : decode cJx4a65c_add_72be8 13 = .ok (.aload_n 1, 1) := by decide +kernel
theorem dJx4a65c_add_72be8_14 : decode cJx4a65c_add_72be8 14 = .ok (.aastore, 1) := by decide +kernel
theorem dJx4a65c_add_72be8_15 : decode cJx4a65c_add_72be8 15 = .ok (.aload_n 0, 1) := by decide +kernel
theorem dJx4a65c_add_72be8_16 : decode cJx4a65c_add_72be8 16 = .ok (.iload_n 3, 1) := by decide +kernel
theorem dJx4a65c_add_72be8_17 : decode cJx4a65c_add_72be8 17 = .ok (.iconst 1, 1) := by decide +kernel
theorem dJx4a65c_add_72be8_18 : decode cJx4a65c_add_72be8 18 = .ok (.iadd, 1) := by decide +kernel
theorem dJx4a65c_add_72be8_19 : decode cJx4a65c_add_72be8 19 = .ok (.putfield 48, 3) := by decide +kernel
theorem dJx4a65c_add_72be8_22 : decode cJx4a65c_add_72be8 22 = .ok (.return_, 1) := by decide +kernel
theorem dJx4a65c_add_9ea2d_0 : decode cJx4a65c_add_9ea2d 0 = .ok (.aload_n 0, 1) := by decide +kernel
theorem dJx4a65c_add_9ea2d_1 : decode cJx4a65c_add_9ea2d 1 = .ok (.dup, 1) := by decide +kernel
theorem dJx4a65c_add_9ea2d_2 : decode cJx4a65c_add_9ea2d 2 = .ok (.getfield 63, 3) := by decide +kernel
theorem dJx4a65c_add_9ea2d_5 : decode cJx4a65c_add_9ea2d 5 = .ok (.iconst 1, 1) := by decide +kernel
theorem dJx4a65c_add_9ea2d_6 : decode cJx4a65c_add_9ea2d 6 = .ok (.iadd, 1) := by decide +kernel
theorem dJx4a65c_add_9ea2d_7 : decode cJx4a65c_add_9ea2d 7 = .ok (.putfield 63, 3) := by decide +kernel
theorem dJx4a65c_add_9ea2d_10 : decode cJx4a65c_add_9ea2d 10 = .ok (.aload_n 0, 1) := by decide +kernel
theorem dJx4a65c_add_9ea2d_11 : decode cJx4a65c_add_9ea2d 11 = .ok (.aload_n 1, 1) := by decide +kernel
theorem dJx4a65c_add_9ea2d_12 : decode cJx4a65c_add_9ea2d 12 = .ok (.aload_n 0, 1) := by decide +kernel
theorem dJx4a65c_add_9ea2d_13 : decode cJx4a65c_add_9ea2d 13 = .ok (.getfield 9, 3) := by decide +kernel
theorem dJx4a65c_add_9ea2d_16 : decode cJx4a65c_add_9ea2d 16 = .ok (.aload_n 0, 1) := by decide +kernel
theorem dJx4a65c_add_9ea2d_17 : decode cJx4a65c_add_9ea2d 17 = .ok (.getfield 48, 3) := by decide +kernel
theorem dJx4a65c_add_9ea2d_20 : decode cJx4a65c_add_9ea2d 20 = .ok (.invokevirtual 131, 3) := by decide +kernel
theorem dJx4a65c_add_9ea2d_23 : decode cJx4a65c_add_9ea2d 23 = .ok (.iconst 1, 1) := by decide +kernel
theorem dJx4a65c_add_9ea2d_24 : decode cJx4a65c_add_9ea2d 24 = .ok (.ireturn, 1) := by decide +kernel
theorem dJ7_copyOf_1904c_0 : decode cJ7_copyOf_1904c 0 = .ok (.aload_n 0, 1) := by decide +kernel
theorem dJ7_copyOf_1904c_1 : decode cJ7_copyOf_1904c 1 = .ok (.iload_n 1, 1) := by decide +kernel
theorem dJ7_copyOf_1904c_2 : decode cJ7_copyOf_1904c 2 = .ok (.aload_n 0, 1) := by decide +kernel
theorem dJ7_copyOf_1904c_3 : decode cJ7_copyOf_1904c 3 = .ok (.invokevirtual 86, 3) := by decide +kernel
theorem dJ7_copyOf_1904c_6 : decode cJ7_copyOf_1904c 6 = .ok (.invokestatic 300, 3) := by decide +kernel
theorem dJ7_copyOf_1904c_9 : decode cJ7_copyOf_1904c 9 = .ok (.areturn, 1) := by decide +kernel
theorem dJ7_copyOf_6403c_0 : decode cJ7_copyOf_6403c 0 = .ok (.aload_n 2, 1) := by decide +kernel
theorem dJ7_copyOf_6403c_1 : decode cJ7_copyOf_6403c 1 = .ok (.ldc 110, 2) := by decide +kernel
theorem dJ7_copyOf_6403c_3 : decode cJ7_copyOf_6403c 3 = .ok (.if_acmp .ne 10, 3) := by decide +kernel
theorem dJ7_copyOf_6403c_6 : decode cJ7_copyOf_6403c 6 = .ok (.iload_n 1, 1) := by decide +kernel
theorem dJ7_copyOf_6403c_7 : decode cJ7_copyOf_6403c 7 = .ok (.anewarray 2, 3) := by decide +kernel
theorem dJ7_copyOf_6403c_10 : decode cJ7_copyOf_6403c 10 = .ok (.goto 14, 3) := by decide +kernel
theorem dJ7_copyOf_6403c_13 : decode cJ7_copyOf_6403c 13 = .ok (.aload_n 2, 1) := by decide +kernel
theorem dJ7_copyOf_6403c_14 : decode cJ7_copyOf_6403c 14 = .ok (.invokevirtual 90, 3) := by decide +kernel
theorem dJ7_copyOf_6403c_17 : decode cJ7_copyOf_6403c 17 = .ok (.iload_n 1, 1) := by decide +kernel
theorem dJ7_copyOf_6403c_18 : decode cJ7_copyOf_6403c 18 = .ok (.invokestatic 95, 3) := by decide +kernel
theorem dJ7_copyOf_6403c_21 : decode cJ7_copyOf_6403c 21 = .ok (.checkcast 110, 3) := by decide +kernel
theorem dJ7_copyOf_6403c_24 : decode cJ7_copyOf_6403c 24 = .ok (.astore_n 3, 1) := by decide +kernel
theorem dJ7_copyOf_6403c_25 : decode cJ7_copyOf_6403c 25 = .ok (.aload_n 0, 1) := by decide +kernel
theorem dJ7_copyOf_6403c_26 : decode cJ7_copyOf_6403c 26 = .ok (.iconst 0, 1) := by decide +kernel
theorem dJ7_copyOf_6403c_27 : decode cJ7_copyOf_6403c 27 = .ok (.aload_n 3, 1) := by decide +kernel
theorem dJ7_copyOf_6403c_28 : decode cJ7_copyOf_6403c 28 = .ok (.iconst 0, 1) := by decide +kernel
theorem dJ7_copyOf_6403c_29 : decode cJ7_copyOf_6403c 29 = .ok (.aload_n 0, 1) := by decide +kernel
theorem dJ7_copyOf_6403c_30 : decode cJ7_copyOf_6403c 30 = .ok (.arraylength, 1) := by decide +kernel
theorem dJ7_copyOf_6403c_31 : decode cJ7_copyOf_6403c 31 = .ok (.iload_n 1, 1) := by decide +kernel
theorem dJ7_copyOf_6403c_32 : decode cJ7_copyOf_6403c 32 = .ok (.invokestatic 304, 3) := by decide +kernel
theorem dJ7_copyOf_6403c_35 : decode cJ7_copyOf_6403c 35 = .ok (.invokestatic 150, 3) := by decide +kernel
theorem dJ7_copyOf_6403c_38 : decode cJ7_copyOf_6403c 38 = .ok (.aload_n 3, 1) := by decide +kernel
theorem dJ7_copyOf_6403c_39 : decode cJ7_copyOf_6403c 39 = .ok (.areturn, 1) := by decide +kernel
theorem dJ15_checkIndex_7cf53_0 : decode cJ15_checkIndex_7cf53 0 = .ok (.iload_n 0, 1) := by decide +kernel
theorem dJ15_checkIndex_7cf53_1 : decode cJ15_checkIndex_7cf53 1 = .ok (.iload_n 1, 1) := by decide +kernel
theorem dJ15_checkIndex_7cf53_2 : decode cJ15_checkIndex_7cf53 2 = .ok (.aconst_null, 1) := by decide +kernel
theorem dJ15_checkIndex_7cf53_3 : decode cJ15_checkIndex_7cf53 3 = .ok (.invokestatic 105, 3) := by decide +kernel
theorem dJ15_checkIndex_7cf53_6 : decode cJ15_checkIndex_7cf53 6 = .ok (.ireturn, 1) := by decide +kernel
theorem dJ8_newLength_cabcc_0 : decode cJ8_newLength_cabcc 0 = .ok (.iload_n 0, 1) := by decide +kernel
theorem dJ8_newLength_cabcc_1 : decode cJ8_newLength_cabcc 1 = .ok (.iload_n 1, 1) := by decide +kernel
theorem dJ8_newLength_cabcc_2 : decode cJ8_newLength_cabcc 2 = .ok (.iload_n 2, 1) := by decide +kernel
theorem dJ8_newLength_cabcc_3 : decode cJ8_newLength_cabcc 3 = .ok (.invokestatic 194, 3) := by decide +kernel
theorem dJ8_newLength_cabcc_6 : decode cJ8_newLength_cabcc 6 = .ok (.iadd, 1) := by decide +kernel
theorem dJ8_newLength_cabcc_7 : decode cJ8_newLength_cabcc 7 = .ok (.istore_n 3, 1) := by decide +kernel
theorem dJ8_newLength_cabcc_8 : decode cJ8_newLength_cabcc 8 = .ok (.iconst 0, 1) := by decide +kernel
theorem dJ8_newLength_cabcc_9 : decode cJ8_newLength_cabcc 9 = .ok (.iload_n 3, 1) := by decide +kernel
theorem dJ8_newLength_cabcc_10 : decode cJ8_newLength_cabcc 10 = .ok (.if_icmp .ge 11, 3) := by decide +kernel
theorem dJ8_newLength_cabcc_13 : decode cJ8_newLength_cabcc 13 = .ok (.iload_n 3, 1) := by decide +kernel
theorem dJ8_newLength_cabcc_14 : decode cJ8_newLength_cabcc 14 = .ok (.ldc 200, 2) := by decide +kernel
theorem dJ8_newLength_cabcc_16 : decode cJ8_newLength_cabcc 16 = .ok (.if_icmp .gt 5, 3) := by decide +kernel
theorem dJ8_newLength_cabcc_19 : decode cJ8_newLength_cabcc 19 = .ok (.iload_n 3, 1) := by decide +kernel
theorem dJ8_newLength_cabcc_20 : decode cJ8_newLength_cabcc 20 = .ok (.ireturn, 1) := by decide +kernel
theorem dJ8_newLength_cabcc_21 : decode cJ8_newLength_cabcc 21 = .ok (.iload_n 0, 1) := by decide +kernel
theorem dJ8_newLength_cabcc_22 : decode cJ8_newLength_cabcc 22 = .ok (.iload_n 1, 1) := by decide +kernel
theorem dJ8_newLength_cabcc_23 : decode cJ8_newLength_cabcc 23 = .ok (.invokestatic 201, 3) := by decide +kernel
theorem dJ8_newLength_cabcc_26 : decode cJ8_newLength_cabcc 26 = .ok (.ireturn, 1) := by decide +kernel
theorem dJ8_hugeLength_7cf53_0 : decode cJ8_hugeLength_7cf53 0 = .ok (.iload_n 0, 1) := by decide +kernel
theorem dJ8_hugeLength_7cf53_1 : decode cJ8_hugeLength_7cf53 1 = .ok (.iload_n 1, 1) := by decide +kernel
theorem dJ8_hugeLength_7cf53_2 : decode cJ8_hugeLength_7cf53 2 = .ok (.iadd, 1) := by decide +kernel
theorem dJ8_hugeLength_7cf53_3 : decode cJ8_hugeLength_7cf53 3 = .ok (.istore_n 2, 1) := by decide +kernel
theorem dJ8_hugeLength_7cf53_4 : decode cJ8_hugeLength_7cf53 4 = .ok (.iload_n 2, 1) := by decide +kernel
theorem dJ8_hugeLength_7cf53_5 : decode cJ8_hugeLength_7cf53 5 = .ok (.ifCond .ge 44, 3) := by decide +kernel
theorem dJ8_hugeLength_7cf53_8 : decode cJ8_hugeLength_7cf53 8 = .ok (.new 204, 3) := by decide +kernel
theorem dJ8_hugeLength_7cf53_11 : decode cJ8_hugeLength_7cf53 11 = .ok (.dup, 1) := by decide +kernel
theorem dJ8_hugeLength_7cf53_12 : decode cJ8_hugeLength_7cf53 12 = .ok (.new 89, 3) := by decide +kernel
theorem dJ8_hugeLength_7cf53_15 : decode cJ8_hugeLength_7cf53 15 = .ok (.dup, 1) := by decide +kernel
theorem dJ8_hugeLength_7cf53_16 : decode cJ8_hugeLength_7cf53 16 = .ok (.invokespecial 91, 3) := by decide +kernel
theorem dJ8_hugeLength_7cf53_19 : decode cJ8_hugeLength_7cf53 19 = .ok (.ldc 206, 2) := by decide +kernel
theorem dJ8_hugeLength_7cf53_21 : decode cJ8_hugeLength_7cf53 21 = .ok (.invokevirtual 94, 3) := by decide +kernel
theorem dJ8_hugeLength_7cf53_24 : decode cJ8_hugeLength_7cf53 24 = .ok (.iload_n 0, 1) := by decide +kernel
theorem dJ8_hugeLength_7cf53_25 : decode cJ8_hugeLength_7cf53 25 = .ok (.invokevirtual 98, 3) := by decide +kernel
theorem dJ8_hugeLength_7cf53_28 : decode cJ8_hugeLength_7cf53 28 = .ok (.ldc 208, 2) := by decide +kernel
theorem dJ8_hugeLength_7cf53_30 : decode cJ8_hugeLength_7cf53 30 = .ok (.invokevirtual 94, 3) := by decide +kernel
theorem dJ8_hugeLength_7cf53_33 : decode cJ8_hugeLength_7cf53 33 = .ok (.iload_n 1, 1) := by decide +kernel
theorem dJ8_hugeLength_7cf53_34 : decode cJ8_hugeLength_7cf53 34 = .ok (.invokevirtual 98, 3) := by decide +kernel
theorem dJ8_hugeLength_7cf53_37 : decode cJ8_hugeLength_7cf53 37 = .ok (.ldc 210, 2) := by decide +kernel
theorem dJ8_hugeLength_7cf53_39 : decode cJ8_hugeLength_7cf53 39 = .ok (.invokevirtual 94, 3) := by decide +kernel
theorem dJ8_hugeLength_7cf53_42 : decode cJ8_hugeLength_7cf53 42 = .ok (.invokevirtual 101, 3) := by decide +kernel
theorem dJ8_hugeLength_7cf53_45 : decode cJ8_hugeLength_7cf53 45 = .ok (.invokespecial 212, 3) := by decide +kernel
theorem dJ8_hugeLength_7cf53_48 : decode cJ8_hugeLength_7cf53 48 = .ok (.athrow, 1) := by decide +kernel
theorem dJ8_hugeLength_7cf53_49 : decode cJ8_hugeLength_7cf53 49 = .ok (.iload_n 2, 1) := by decide +kernel
theorem dJ8_hugeLength_7cf53_50 : decode cJ8_hugeLength_7cf53 50 = .ok (.ldc 200, 2) := by decide +kernel
theorem dJ8_hugeLength_7cf53_52 : decode cJ8_hugeLength_7cf53 52 = .ok (.if_icmp .gt 6, 3) := by decide +kernel
theorem dJ8_hugeLength_7cf53_55 : decode cJ8_hugeLength_7cf53 55 = .ok (.ldc 200, 2) := by decide +kernel
theorem dJ8_hugeLength_7cf53_57 : decode cJ8_hugeLength_7cf53 57 = .ok (.ireturn, 1) := by decide +kernel
theorem dJ8_hugeLength_7cf53_58 : decode cJ8_hugeLength_7cf53 58 = .ok (.iload_n 2, 1) := by decide +kernel
theorem dJ8_hugeLength_7cf53_59 : decode cJ8_hugeLength_7cf53 59 = .ok (.ireturn, 1) := by decide +kernel
theorem dJ3_checkIndex_8e157_0 : decode cJ3_checkIndex_8e157 0 = .ok (.iload_n 0, 1) := by decide +kernel
theorem dJ3_checkIndex_8e157_1 : decode cJ3_checkIndex_8e157 1 = .ok (.ifCond .lt 8, 3) := by decide +kernel
theorem dJ3_checkIndex_8e157_4 : decode cJ3_checkIndex_8e157 4 = .ok (.iload_n 0, 1) := by decide +kernel
theorem dJ3_checkIndex_8e157_5 : decode cJ3_checkIndex_8e157 5 = .ok (.iload_n 1, 1) := by decide +kernel
theorem dJ3_checkIndex_8e157_6 : decode cJ3_checkIndex_8e157 6 = .ok (.if_icmp .lt 10, 3) := by decide +kernel
theorem dJ3_checkIndex_8e157_9 : decode cJ3_checkIndex_8e157 9 = .ok (.aload_n 2, 1) := by decide +kernel
theorem dJ3_checkIndex_8e157_10 : decode cJ3_checkIndex_8e157 10 = .ok (.iload_n 0, 1) := by decide +kernel
theorem dJ3_checkIndex_8e157_11 : decode cJ3_checkIndex_8e157 11 = .ok (.iload_n 1, 1) := by decide +kernel
theorem dJ3_checkIndex_8e157_12 : decode cJ3_checkIndex_8e157 12 = .ok (.invokestatic 95, 3) := by decide +kernel
theorem dJ3_checkIndex_8e157_15 : decode cJ3_checkIndex_8e157 15 = .ok (.athrow, 1) := by decide +kernel
theorem dJ3_checkIndex_8e157_16 : decode cJ3_checkIndex_8e157 16 = .ok (.iload_n 0, 1) := by decide +kernel
theorem dJ3_checkIndex_8e157_17 : decode cJ3_checkIndex_8e157 17 = .ok (.ireturn, 1) := by decide +kernel
