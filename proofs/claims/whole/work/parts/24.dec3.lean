theorem dX11_init_0 : decode cX11_init 0 = .ok (.aload_n 0, 1) := by decide +kernel
theorem dX11_init_1 : decode cX11_init 1 = .ok (.invokespecial 1, 3) := by decide +kernel
theorem dX11_init_4 : decode cX11_init 4 = .ok (.aload_n 0, 1) := by decide +kernel
theorem dX11_init_5 : decode cX11_init 5 = .ok (.bipush 17, 2) := by decide +kernel
theorem dX11_init_7 : decode cX11_init 7 = .ok (.newarray .int, 2) := by decide +kernel
theorem dX11_init_9 : decode cX11_init 9 = .ok (.putfield 7, 3) := by decide +kernel
theorem dX11_init_12 : decode cX11_init 12 = .ok (.aload_n 0, 1) := by decide +kernel
theorem dX11_init_13 : decode cX11_init 13 = .ok (.sipush 170, 3) := by decide +kernel
theorem dX11_init_16 : decode cX11_init 16 = .ok (.newarray .int, 2) := by decide +kernel
theorem dX11_init_18 : decode cX11_init 18 = .ok (.putfield 13, 3) := by decide +kernel
theorem dX11_init_21 : decode cX11_init 21 = .ok (.aload_n 0, 1) := by decide +kernel
theorem dX11_init_22 : decode cX11_init 22 = .ok (.bipush 17, 2) := by decide +kernel
theorem dX11_init_24 : decode cX11_init 24 = .ok (.newarray .boolean, 2) := by decide +kernel
theorem dX11_init_26 : decode cX11_init 26 = .ok (.putfield 16, 3) := by decide +kernel
theorem dX11_init_29 : decode cX11_init 29 = .ok (.aload_n 0, 1) := by decide +kernel
theorem dX11_init_30 : decode cX11_init 30 = .ok (.bipush 17, 2) := by decide +kernel
theorem dX11_init_32 : decode cX11_init 32 = .ok (.newarray .int, 2) := by decide +kernel
theorem dX11_init_34 : decode cX11_init 34 = .ok (.putfield 20, 3) := by decide +kernel
theorem dX11_init_37 : decode cX11_init 37 = .ok (.aload_n 0, 1) := by decide +kernel
theorem dX11_init_38 : decode cX11_init 38 = .ok (.bipush 17, 2) := by decide +kernel
theorem dX11_init_40 : decode cX11_init 40 = .ok (.newarray .int, 2) := by decide +kernel
theorem dX11_init_42 : decode cX11_init 42 = .ok (.putfield 23, 3) := by decide +kernel
theorem dX11_init_45 : decode cX11_init 45 = .ok (.aload_n 0, 1) := by decide +kernel
theorem dX11_init_46 : decode cX11_init 46 = .ok (.sipush 2040, 3) := by decide +kernel
theorem dX11_init_49 : decode cX11_init 49 = .ok (.newarray .int, 2) := by decide +kernel
theorem dX11_init_51 : decode cX11_init 51 = .ok (.putfield 26, 3) := by decide +kernel
theorem dX11_init_54 : decode cX11_init 54 = .ok (.aload_n 0, 1) := by decide +kernel
theorem dX11_init_55 : decode cX11_init 55 = .ok (.iconst 1, 1) := by decide +kernel
theorem dX11_init_56 : decode cX11_init 56 = .ok (.putfield 29, 3) := by decide +kernel
theorem dX11_init_59 : decode cX11_init 59 = .ok (.aload_n 0, 1) := by decide +kernel
theorem dX11_init_60 : decode cX11_init 60 = .ok (.sipush 160, 3) := by decide +kernel
theorem dX11_init_63 : decode cX11_init 63 = .ok (.newarray .int, 2) := by decide +kernel
theorem dX11_init_65 : decode cX11_init 65 = .ok (.putfield 33, 3) := by decide +kernel
theorem dX11_init_68 : decode cX11_init 68 = .ok (.aload_n 0, 1) := by decide +kernel
theorem dX11_init_69 : decode cX11_init 69 = .ok (.sipush 160, 3) := by decide +kernel
theorem dX11_init_72 : decode cX11_init 72 = .ok (.newarray .int, 2) := by decide +kernel
theorem dX11_init_74 : decode cX11_init 74 = .ok (.putfield 36, 3) := by decide +kernel
theorem dX11_init_77 : decode cX11_init 77 = .ok (.aload_n 0, 1) := by decide +kernel
theorem dX11_init_78 : decode cX11_init 78 = .ok (.bipush 18, 2) := by decide +kernel
theorem dX11_init_80 : decode cX11_init 80 = .ok (.newarray .int, 2) := by decide +kernel
theorem dX11_init_82 : decode cX11_init 82 = .ok (.putfield 39, 3) := by decide +kernel
theorem dX11_init_85 : decode cX11_init 85 = .ok (.aload_n 0, 1) := by decide +kernel
theorem dX11_init_86 : decode cX11_init 86 = .ok (.bipush 48, 2) := by decide +kernel
theorem dX11_init_88 : decode cX11_init 88 = .ok (.newarray .int, 2) := by decide +kernel
theorem dX11_init_90 : decode cX11_init 90 = .ok (.putfield 42, 3) := by decide +kernel
theorem dX11_init_93 : decode cX11_init 93 = .ok (.aload_n 0, 1) := by decide +kernel
theorem dX11_init_94 : decode cX11_init 94 = .ok (.bipush 64, 2) := by decide +kernel
theorem dX11_init_96 : decode cX11_init 96 = .ok (.newarray .int, 2) := by decide +kernel
theorem dX11_init_98 : decode cX11_init 98 = .ok (.putfield 45, 3) := by decide +kernel
theorem dX11_init_101 : decode cX11_init 101 = .ok (.aload_n 0, 1) := by decide +kernel
theorem dX11_init_102 : decode cX11_init 102 = .ok (.bipush 64, 2) := by decide +kernel
theorem dX11_init_104 : decode cX11_init 104 = .ok (.newarray .int, 2) := by decide +kernel
theorem dX11_init_106 : decode cX11_init 106 = .ok (.putfield 48, 3) := by decide +kernel
theorem dX11_init_109 : decode cX11_init 109 = .ok (.aload_n 0, 1) := by decide +kernel
theorem dX11_init_110 : decode cX11_init 110 = .ok (.bipush 64, 2) := by decide +kernel
theorem dX11_init_112 : decode cX11_init 112 = .ok (.newarray .int, 2) := by decide +kernel
theorem dX11_init_114 : decode cX11_init 114 = .ok (.putfield 51, 3) := by decide +kernel
theorem dX11_init_117 : decode cX11_init 117 = .ok (.aload_n 0, 1) := by decide +kernel
theorem dX11_init_118 : decode cX11_init 118 = .ok (.bipush 40, 2) := by decide +kernel
theorem dX11_init_120 : decode cX11_init 120 = .ok (.newarray .int, 2) := by decide +kernel
theorem dX11_init_122 : decode cX11_init 122 = .ok (.putfield 54, 3) := by decide +kernel
theorem dX11_init_125 : decode cX11_init 125 = .ok (.aload_n 0, 1) := by decide +kernel
theorem dX11_init_126 : decode cX11_init 126 = .ok (.sipush 400, 3) := by decide +kernel
theorem dX11_init_129 : decode cX11_init 129 = .ok (.newarray .int, 2) := by decide +kernel
theorem dX11_init_131 : decode cX11_init 131 = .ok (.putfield 57, 3) := by decide +kernel
theorem dX11_init_134 : decode cX11_init 134 = .ok (.aload_n 0, 1) := by decide +kernel
theorem dX11_init_135 : decode cX11_init 135 = .ok (.bipush 40, 2) := by decide +kernel
theorem dX11_init_137 : decode cX11_init 137 = .ok (.newarray .int, 2) := by decide +kernel
theorem dX11_init_139 : decode cX11_init 139 = .ok (.putfield 60, 3) := by decide +kernel
theorem dX11_init_142 : decode cX11_init 142 = .ok (.return_, 1) := by decide +kernel
theorem dX11_byteFrom_0 : decode cX11_byteFrom 0 = .ok (.iload 4, 2) := by decide +kernel
theorem dX11_byteFrom_2 : decode cX11_byteFrom 2 = .ok (.iconst 4, 1) := by decide +kernel
theorem dX11_byteFrom_3 : decode cX11_byteFrom 3 = .ok (.if_icmp .ge 7, 3) := by decide +kernel
theorem dX11_byteFrom_6 : decode cX11_byteFrom 6 = .ok (.iload_n 1, 1) := by decide +kernel
theorem dX11_byteFrom_7 : decode cX11_byteFrom 7 = .ok (.goto 15, 3) := by decide +kernel
theorem dX11_byteFrom_10 : decode cX11_byteFrom 10 = .ok (.iload 4, 2) := by decide +kernel
theorem dX11_byteFrom_12 : decode cX11_byteFrom 12 = .ok (.bipush 8, 2) := by decide +kernel
theorem dX11_byteFrom_14 : decode cX11_byteFrom 14 = .ok (.if_icmp .ge 7, 3) := by decide +kernel
theorem dX11_byteFrom_17 : decode cX11_byteFrom 17 = .ok (.iload_n 2, 1) := by decide +kernel
theorem dX11_byteFrom_18 : decode cX11_byteFrom 18 = .ok (.goto 4, 3) := by decide +kernel
theorem dX11_byteFrom_21 : decode cX11_byteFrom 21 = .ok (.iload_n 3, 1) := by decide +kernel
theorem dX11_byteFrom_22 : decode cX11_byteFrom 22 = .ok (.istore 5, 2) := by decide +kernel
theorem dX11_byteFrom_24 : decode cX11_byteFrom 24 = .ok (.iload 5, 2) := by decide +kernel
theorem dX11_byteFrom_26 : decode cX11_byteFrom 26 = .ok (.bipush 24, 2) := by decide +kernel
theorem dX11_byteFrom_28 : decode cX11_byteFrom 28 = .ok (.bipush 8, 2) := by decide +kernel
theorem dX11_byteFrom_30 : decode cX11_byteFrom 30 = .ok (.iload 4, 2) := by decide +kernel
theorem dX11_byteFrom_32 : decode cX11_byteFrom 32 = .ok (.iconst 4, 1) := by decide +kernel
theorem dX11_byteFrom_33 : decode cX11_byteFrom 33 = .ok (.irem, 1) := by decide +kernel
theorem dX11_byteFrom_34 : decode cX11_byteFrom 34 = .ok (.imul, 1) := by decide +kernel
theorem dX11_byteFrom_35 : decode cX11_byteFrom 35 = .ok (.isub, 1) := by decide +kernel
theorem dX11_byteFrom_36 : decode cX11_byteFrom 36 = .ok (.iushr, 1) := by decide +kernel
theorem dX11_byteFrom_37 : decode cX11_byteFrom 37 = .ok (.sipush 255, 3) := by decide +kernel
theorem dX11_byteFrom_40 : decode cX11_byteFrom 40 = .ok (.iand, 1) := by decide +kernel
theorem dX11_byteFrom_41 : decode cX11_byteFrom 41 = .ok (.ireturn, 1) := by decide +kernel
theorem dX11_show_0 : decode cX11_show 0 = .ok (.iload_n 3, 1) := by decide +kernel
theorem dX11_show_1 : decode cX11_show 1 = .ok (.iload 4, 2) := by decide +kernel
theorem dX11_show_3 : decode cX11_show 3 = .ok (.ixor, 1) := by decide +kernel
theorem dX11_show_4 : decode cX11_show 4 = .ok (.iload 5, 2) := by decide +kernel
theorem dX11_show_6 : decode cX11_show 6 = .ok (.ixor, 1) := by decide +kernel
theorem dX11_show_7 : decode cX11_show 7 = .ok (.iload 6, 2) := by decide +kernel
theorem dX11_show_9 : decode cX11_show 9 = .ok (.ixor, 1) := by decide +kernel
theorem dX11_show_10 : decode cX11_show 10 = .ok (.istore 7, 2) := by decide +kernel
theorem dX11_show_12 : decode cX11_show 12 = .ok (.iconst 0, 1) := by decide +kernel
theorem dX11_show_13 : decode cX11_show 13 = .ok (.istore 8, 2) := by decide +kernel
theorem dX11_show_15 : decode cX11_show 15 = .ok (.iload 8, 2) := by decide +kernel
theorem dX11_show_17 : decode cX11_show 17 = .ok (.bipush 40, 2) := by decide +kernel
theorem dX11_show_19 : decode cX11_show 19 = .ok (.if_icmp .ge 87, 3) := by decide +kernel
theorem dX11_show_22 : decode cX11_show 22 = .ok (.iload 8, 2) := by decide +kernel
theorem dX11_show_24 : decode cX11_show 24 = .ok (.bipush 8, 2) := by decide +kernel
theorem dX11_show_26 : decode cX11_show 26 = .ok (.if_icmp .ge 7, 3) := by decide +kernel
theorem dX11_show_29 : decode cX11_show 29 = .ok (.iload_n 3, 1) := by decide +kernel
theorem dX11_show_30 : decode cX11_show 30 = .ok (.goto 41, 3) := by decide +kernel
theorem dX11_show_33 : decode cX11_show 33 = .ok (.iload 8, 2) := by decide +kernel
theorem dX11_show_35 : decode cX11_show 35 = .ok (.bipush 16, 2) := by decide +kernel
theorem dX11_show_37 : decode cX11_show 37 = .ok (.if_icmp .ge 8, 3) := by decide +kernel
theorem dX11_show_40 : decode cX11_show 40 = .ok (.iload 4, 2) := by decide +kernel
theorem dX11_show_42 : decode cX11_show 42 = .ok (.goto 29, 3) := by decide +kernel
theorem dX11_show_45 : decode cX11_show 45 = .ok (.iload 8, 2) := by decide +kernel
theorem dX11_show_47 : decode cX11_show 47 = .ok (.bipush 24, 2) := by decide +kernel
theorem dX11_show_49 : decode cX11_show 49 = .ok (.if_icmp .ge 8, 3) := by decide +kernel
theorem dX11_show_52 : decode cX11_show 52 = .ok (.iload 5, 2) := by decide +kernel
theorem dX11_show_54 : decode cX11_show 54 = .ok (.goto 17, 3) := by decide +kernel
theorem dX11_show_57 : decode cX11_show 57 = .ok (.iload 8, 2) := by decide +kernel
theorem dX11_show_59 : decode cX11_show 59 = .ok (.bipush 32, 2) := by decide +kernel
theorem dX11_show_61 : decode cX11_show 61 = .ok (.if_icmp .ge 8, 3) := by decide +kernel
theorem dX11_show_64 : decode cX11_show 64 = .ok (.iload 6, 2) := by decide +kernel
theorem dX11_show_66 : decode cX11_show 66 = .ok (.goto 5, 3) := by decide +kernel
theorem dX11_show_69 : decode cX11_show 69 = .ok (.iload 7, 2) := by decide +kernel
theorem dX11_show_71 : decode cX11_show 71 = .ok (.istore 9, 2) := by decide +kernel
theorem dX11_show_73 : decode cX11_show 73 = .ok (.aload_n 0, 1) := by decide +kernel
theorem dX11_show_74 : decode cX11_show 74 = .ok (.getfield 26, 3) := by decide +kernel
theorem dX11_show_77 : decode cX11_show 77 = .ok (.bipush 120, 2) := by decide +kernel
theorem dX11_show_79 : decode cX11_show 79 = .ok (.iload_n 1, 1) := by decide +kernel
theorem dX11_show_80 : decode cX11_show 80 = .ok (.imul, 1) := by decide +kernel
theorem dX11_show_81 : decode cX11_show 81 = .ok (.bipush 40, 2) := by decide +kernel
theorem dX11_show_83 : decode cX11_show 83 = .ok (.iload_n 2, 1) := by decide +kernel
theorem dX11_show_84 : decode cX11_show 84 = .ok (.imul, 1) := by decide +kernel
theorem dX11_show_85 : decode cX11_show 85 = .ok (.iadd, 1) := by decide +kernel
theorem dX11_show_86 : decode cX11_show 86 = .ok (.iload 8, 2) := by decide +kernel
theorem dX11_show_88 : decode cX11_show 88 = .ok (.iadd, 1) := by decide +kernel
theorem dX11_show_89 : decode cX11_show 89 = .ok (.iload 9, 2) := by decide +kernel
theorem dX11_show_91 : decode cX11_show 91 = .ok (.iload 8, 2) := by decide +kernel
theorem dX11_show_93 : decode cX11_show 93 = .ok (.bipush 8, 2) := by decide +kernel
theorem dX11_show_95 : decode cX11_show 95 = .ok (.irem, 1) := by decide +kernel
theorem dX11_show_96 : decode cX11_show 96 = .ok (.ishr, 1) := by decide +kernel
theorem dX11_show_97 : decode cX11_show 97 = .ok (.iconst 1, 1) := by decide +kernel
theorem dX11_show_98 : decode cX11_show 98 = .ok (.iand, 1) := by decide +kernel
theorem dX11_show_99 : decode cX11_show 99 = .ok (.iastore, 1) := by decide +kernel
theorem dX11_show_100 : decode cX11_show 100 = .ok (.iinc 8 1, 3) := by decide +kernel
theorem dX11_show_103 : decode cX11_show 103 = .ok (.goto (-88), 3) := by decide +kernel
theorem dX11_show_106 : decode cX11_show 106 = .ok (.return_, 1) := by decide +kernel
theorem dX11_tag_0 : decode cX11_tag 0 = .ok (.iload_n 1, 1) := by decide +kernel
theorem dX11_tag_1 : decode cX11_tag 1 = .ok (.iconst 4, 1) := by decide +kernel
theorem dX11_tag_2 : decode cX11_tag 2 = .ok (.if_icmp .eq 18, 3) := by decide +kernel
theorem dX11_tag_5 : decode cX11_tag 5 = .ok (.iload_n 1, 1) := by decide +kernel
theorem dX11_tag_6 : decode cX11_tag 6 = .ok (.bipush 7, 2) := by decide +kernel
theorem dX11_tag_8 : decode cX11_tag 8 = .ok (.if_icmp .eq 12, 3) := by decide +kernel
theorem dX11_tag_11 : decode cX11_tag 11 = .ok (.iload_n 1, 1) := by decide +kernel
theorem dX11_tag_12 : decode cX11_tag 12 = .ok (.bipush 10, 2) := by decide +kernel
theorem dX11_tag_14 : decode cX11_tag 14 = .ok (.if_icmp .eq 6, 3) := by decide +kernel
theorem dX11_tag_17 : decode cX11_tag 17 = .ok (.bipush (-12), 2) := by decide +kernel
theorem dX11_tag_19 : decode cX11_tag 19 = .ok (.ireturn, 1) := by decide +kernel
theorem dX11_tag_20 : decode cX11_tag 20 = .ok (.aload_n 0, 1) := by decide +kernel
theorem dX11_tag_21 : decode cX11_tag 21 = .ok (.iload_n 2, 1) := by decide +kernel
theorem dX11_tag_22 : decode cX11_tag 22 = .ok (.iload_n 3, 1) := by decide +kernel
theorem dX11_tag_23 : decode cX11_tag 23 = .ok (.iload 4, 2) := by decide +kernel
theorem dX11_tag_25 : decode cX11_tag 25 = .ok (.iload_n 1, 1) := by decide +kernel
theorem dX11_tag_26 : decode cX11_tag 26 = .ok (.iconst 4, 1) := by decide +kernel
theorem dX11_tag_27 : decode cX11_tag 27 = .ok (.isub, 1) := by decide +kernel
theorem dX11_tag_28 : decode cX11_tag 28 = .ok (.invokevirtual 63, 3) := by decide +kernel
theorem dX11_tag_31 : decode cX11_tag 31 = .ok (.sipush 136, 3) := by decide +kernel
theorem dX11_tag_34 : decode cX11_tag 34 = .ok (.if_icmp .ne 6, 3) := by decide +kernel
theorem dX11_tag_37 : decode cX11_tag 37 = .ok (.bipush (-13), 2) := by decide +kernel
theorem dX11_tag_39 : decode cX11_tag 39 = .ok (.ireturn, 1) := by decide +kernel
theorem dX11_tag_40 : decode cX11_tag 40 = .ok (.iconst 1, 1) := by decide +kernel
theorem dX11_tag_41 : decode cX11_tag 41 = .ok (.istore 5, 2) := by decide +kernel
theorem dX11_tag_43 : decode cX11_tag 43 = .ok (.iload 5, 2) := by decide +kernel
theorem dX11_tag_45 : decode cX11_tag 45 = .ok (.aload_n 0, 1) := by decide +kernel
theorem dX11_tag_46 : decode cX11_tag 46 = .ok (.getfield 67, 3) := by decide +kernel
theorem dX11_tag_49 : decode cX11_tag 49 = .ok (.if_icmp .gt 88, 3) := by decide +kernel
theorem dX11_tag_52 : decode cX11_tag 52 = .ok (.aload_n 0, 1) := by decide +kernel
theorem dX11_tag_53 : decode cX11_tag 53 = .ok (.getfield 7, 3) := by decide +kernel
theorem dX11_tag_56 : decode cX11_tag 56 = .ok (.iload 5, 2) := by decide +kernel
theorem dX11_tag_58 : decode cX11_tag 58 = .ok (.iaload, 1) := by decide +kernel
theorem dX11_tag_59 : decode cX11_tag 59 = .ok (.iload_n 1, 1) := by decide +kernel
theorem dX11_tag_60 : decode cX11_tag 60 = .ok (.if_icmp .ne 7, 3) := by decide +kernel
theorem dX11_tag_63 : decode cX11_tag 63 = .ok (.iconst 1, 1) := by decide +kernel
theorem dX11_tag_64 : decode cX11_tag 64 = .ok (.goto 4, 3) := by decide +kernel
theorem dX11_tag_67 : decode cX11_tag 67 = .ok (.iconst 0, 1) := by decide +kernel
theorem dX11_tag_68 : decode cX11_tag 68 = .ok (.istore 6, 2) := by decide +kernel
theorem dX11_tag_70 : decode cX11_tag 70 = .ok (.iconst 0, 1) := by decide +kernel
theorem dX11_tag_71 : decode cX11_tag 71 = .ok (.istore 7, 2) := by decide +kernel
theorem dX11_tag_73 : decode cX11_tag 73 = .ok (.iload 7, 2) := by decide +kernel
theorem dX11_tag_75 : decode cX11_tag 75 = .ok (.iload_n 1, 1) := by decide +kernel
theorem dX11_tag_76 : decode cX11_tag 76 = .ok (.if_icmp .ge 47, 3) := by decide +kernel
theorem dX11_tag_79 : decode cX11_tag 79 = .ok (.iload 6, 2) := by decide +kernel
theorem dX11_tag_81 : decode cX11_tag 81 = .ok (.ifCond .eq 33, 3) := by decide +kernel
theorem dX11_tag_84 : decode cX11_tag 84 = .ok (.aload_n 0, 1) := by decide +kernel
theorem dX11_tag_85 : decode cX11_tag 85 = .ok (.getfield 13, 3) := by decide +kernel
theorem dX11_tag_88 : decode cX11_tag 88 = .ok (.bipush 10, 2) := by decide +kernel
theorem dX11_tag_90 : decode cX11_tag 90 = .ok (.iload 5, 2) := by decide +kernel
theorem dX11_tag_92 : decode cX11_tag 92 = .ok (.imul, 1) := by decide +kernel
theorem dX11_tag_93 : decode cX11_tag 93 = .ok (.iload 7, 2) := by decide +kernel
theorem dX11_tag_95 : decode cX11_tag 95 = .ok (.iadd, 1) := by decide +kernel
theorem dX11_tag_96 : decode cX11_tag 96 = .ok (.iaload, 1) := by decide +kernel
theorem dX11_tag_97 : decode cX11_tag 97 = .ok (.aload_n 0, 1) := by decide +kernel
theorem dX11_tag_98 : decode cX11_tag 98 = .ok (.iload_n 2, 1) := by decide +kernel
theorem dX11_tag_99 : decode cX11_tag 99 = .ok (.iload_n 3, 1) := by decide +kernel
theorem dX11_tag_100 : decode cX11_tag 100 = .ok (.iload 4, 2) := by decide +kernel
theorem dX11_tag_102 : decode cX11_tag 102 = .ok (.iload 7, 2) := by decide +kernel
theorem dX11_tag_104 : decode cX11_tag 104 = .ok (.invokevirtual 63, 3) := by decide +kernel
theorem dX11_tag_107 : decode cX11_tag 107 = .ok (.if_icmp .ne 7, 3) := by decide +kernel
theorem dX11_tag_110 : decode cX11_tag 110 = .ok (.iconst 1, 1) := by decide +kernel
theorem dX11_tag_111 : decode cX11_tag 111 = .ok (.goto 4, 3) := by decide +kernel
theorem dX11_tag_114 : decode cX11_tag 114 = .ok (.iconst 0, 1) := by decide +kernel
theorem dX11_tag_115 : decode cX11_tag 115 = .ok (.istore 6, 2) := by decide +kernel
theorem dX11_tag_117 : decode cX11_tag 117 = .ok (.iinc 7 1, 3) := by decide +kernel
theorem dX11_tag_120 : decode cX11_tag 120 = .ok (.goto (-47), 3) := by decide +kernel
theorem dX11_tag_123 : decode cX11_tag 123 = .ok (.iload 6, 2) := by decide +kernel
theorem dX11_tag_125 : decode cX11_tag 125 = .ok (.ifCond .eq 6, 3) := by decide +kernel
theorem dX11_tag_128 : decode cX11_tag 128 = .ok (.bipush (-13), 2) := by decide +kernel
theorem dX11_tag_130 : decode cX11_tag 130 = .ok (.ireturn, 1) := by decide +kernel
theorem dX11_tag_131 : decode cX11_tag 131 = .ok (.iinc 5 1, 3) := by decide +kernel
theorem dX11_tag_134 : decode cX11_tag 134 = .ok (.goto (-91), 3) := by decide +kernel
theorem dX11_tag_137 : decode cX11_tag 137 = .ok (.aload_n 0, 1) := by decide +kernel
theorem dX11_tag_138 : decode cX11_tag 138 = .ok (.getfield 67, 3) := by decide +kernel
theorem dX11_tag_141 : decode cX11_tag 141 = .ok (.bipush 16, 2) := by decide +kernel
theorem dX11_tag_143 : decode cX11_tag 143 = .ok (.if_icmp .ne 6, 3) := by decide +kernel
theorem dX11_tag_146 : decode cX11_tag 146 = .ok (.bipush (-14), 2) := by decide +kernel
theorem dX11_tag_148 : decode cX11_tag 148 = .ok (.ireturn, 1) := by decide +kernel
theorem dX11_tag_149 : decode cX11_tag 149 = .ok (.aload_n 0, 1) := by decide +kernel
theorem dX11_tag_150 : decode cX11_tag 150 = .ok (.dup, 1) := by decide +kernel
theorem dX11_tag_151 : decode cX11_tag 151 = .ok (.getfield 67, 3) := by decide +kernel
theorem dX11_tag_154 : decode cX11_tag 154 = .ok (.iconst 1, 1) := by decide +kernel
theorem dX11_tag_155 : decode cX11_tag 155 = .ok (.iadd, 1) := by decide +kernel
theorem dX11_tag_156 : decode cX11_tag 156 = .ok (.putfield 67, 3) := by decide +kernel
theorem dX11_tag_159 : decode cX11_tag 159 = .ok (.aload_n 0, 1) := by decide +kernel
theorem dX11_tag_160 : decode cX11_tag 160 = .ok (.getfield 67, 3) := by decide +kernel
theorem dX11_tag_163 : decode cX11_tag 163 = .ok (.istore 5, 2) := by decide +kernel
theorem dX11_tag_165 : decode cX11_tag 165 = .ok (.aload_n 0, 1) := by decide +kernel
theorem dX11_tag_166 : decode cX11_tag 166 = .ok (.getfield 7, 3) := by decide +kernel
theorem dX11_tag_169 : decode cX11_tag 169 = .ok (.iload 5, 2) := by decide +kernel
theorem dX11_tag_171 : decode cX11_tag 171 = .ok (.iload_n 1, 1) := by decide +kernel
theorem dX11_tag_172 : decode cX11_tag 172 = .ok (.iastore, 1) := by decide +kernel
theorem dX11_tag_173 : decode cX11_tag 173 = .ok (.iconst 0, 1) := by decide +kernel
theorem dX11_tag_174 : decode cX11_tag 174 = .ok (.istore 6, 2) := by decide +kernel
theorem dX11_tag_176 : decode cX11_tag 176 = .ok (.iload 6, 2) := by decide +kernel
theorem dX11_tag_178 : decode cX11_tag 178 = .ok (.iload_n 1, 1) := by decide +kernel
theorem dX11_tag_179 : decode cX11_tag 179 = .ok (.if_icmp .ge 32, 3) := by decide +kernel
theorem dX11_tag_182 : decode cX11_tag 182 = .ok (.aload_n 0, 1) := by decide +kernel
theorem dX11_tag_183 : decode cX11_tag 183 = .ok (.getfield 13, 3) := by decide +kernel
theorem dX11_tag_186 : decode cX11_tag 186 = .ok (.bipush 10, 2) := by decide +kernel
theorem dX11_tag_188 : decode cX11_tag 188 = .ok (.iload 5, 2) := by decide +kernel
theorem dX11_tag_190 : decode cX11_tag 190 = .ok (.imul, 1) := by decide +kernel
theorem dX11_tag_191 : decode cX11_tag 191 = .ok (.iload 6, 2) := by decide +kernel
theorem dX11_tag_193 : decode cX11_tag 193 = .ok (.iadd, 1) := by decide +kernel
theorem dX11_tag_194 : decode cX11_tag 194 = .ok (.aload_n 0, 1) := by decide +kernel
theorem dX11_tag_195 : decode cX11_tag 195 = .ok (.iload_n 2, 1) := by decide +kernel
theorem dX11_tag_196 : decode cX11_tag 196 = .ok (.iload_n 3, 1) := by decide +kernel
theorem dX11_tag_197 : decode cX11_tag 197 = .ok (.iload 4, 2) := by decide +kernel
theorem dX11_tag_199 : decode cX11_tag 199 = .ok (.iload 6, 2) := by decide +kernel
theorem dX11_tag_201 : decode cX11_tag 201 = .ok (.invokevirtual 63, 3) := by decide +kernel
theorem dX11_tag_204 : decode cX11_tag 204 = .ok (.iastore, 1) := by decide +kernel
theorem dX11_tag_205 : decode cX11_tag 205 = .ok (.iinc 6 1, 3) := by decide +kernel
theorem dX11_tag_208 : decode cX11_tag 208 = .ok (.goto (-32), 3) := by decide +kernel
theorem dX11_tag_211 : decode cX11_tag 211 = .ok (.bipush 10, 2) := by decide +kernel
theorem dX11_tag_213 : decode cX11_tag 213 = .ok (.iload 5, 2) := by decide +kernel
theorem dX11_tag_215 : decode cX11_tag 215 = .ok (.imul, 1) := by decide +kernel
theorem dX11_tag_216 : decode cX11_tag 216 = .ok (.istore 6, 2) := by decide +kernel
theorem dX11_tag_218 : decode cX11_tag 218 = .ok (.iload_n 1, 1) := by decide +kernel
theorem dX11_tag_219 : decode cX11_tag 219 = .ok (.iconst 3, 1) := by decide +kernel
theorem dX11_tag_220 : decode cX11_tag 220 = .ok (.idiv, 1) := by decide +kernel
theorem dX11_tag_221 : decode cX11_tag 221 = .ok (.istore 7, 2) := by decide +kernel
theorem dX11_tag_223 : decode cX11_tag 223 = .ok (.iconst 0, 1) := by decide +kernel
theorem dX11_tag_224 : decode cX11_tag 224 = .ok (.istore 8, 2) := by decide +kernel
theorem dX11_tag_226 : decode cX11_tag 226 = .ok (.iload 8, 2) := by decide +kernel
theorem dX11_tag_228 : decode cX11_tag 228 = .ok (.iload 7, 2) := by decide +kernel
theorem dX11_tag_230 : decode cX11_tag 230 = .ok (.if_icmp .ge 108, 3) := by decide +kernel
theorem dX11_tag_233 : decode cX11_tag 233 = .ok (.iload 6, 2) := by decide +kernel
theorem dX11_tag_235 : decode cX11_tag 235 = .ok (.iconst 3, 1) := by decide +kernel
theorem dX11_tag_236 : decode cX11_tag 236 = .ok (.iload 8, 2) := by decide +kernel
theorem dX11_tag_238 : decode cX11_tag 238 = .ok (.imul, 1) := by decide +kernel
theorem dX11_tag_239 : decode cX11_tag 239 = .ok (.iadd, 1) := by decide +kernel
theorem dX11_tag_240 : decode cX11_tag 240 = .ok (.istore 9, 2) := by decide +kernel
theorem dX11_tag_242 : decode cX11_tag 242 = .ok (.iload 8, 2) := by decide +kernel
theorem dX11_tag_244 : decode cX11_tag 244 = .ok (.iconst 1, 1) := by decide +kernel
theorem dX11_tag_245 : decode cX11_tag 245 = .ok (.iadd, 1) := by decide +kernel
theorem dX11_tag_246 : decode cX11_tag 246 = .ok (.iload 7, 2) := by decide +kernel
theorem dX11_tag_248 : decode cX11_tag 248 = .ok (.if_icmp .ge 42, 3) := by decide +kernel
theorem dX11_tag_251 : decode cX11_tag 251 = .ok (.aload_n 0, 1) := by decide +kernel
theorem dX11_tag_252 : decode cX11_tag 252 = .ok (.iload 5, 2) := by decide +kernel
theorem dX11_tag_254 : decode cX11_tag 254 = .ok (.iload 8, 2) := by decide +kernel
theorem dX11_tag_256 : decode cX11_tag 256 = .ok (.sipush 136, 3) := by decide +kernel
theorem dX11_tag_259 : decode cX11_tag 259 = .ok (.aload_n 0, 1) := by decide +kernel
theorem dX11_tag_260 : decode cX11_tag 260 = .ok (.getfield 13, 3) := by decide +kernel
theorem dX11_tag_263 : decode cX11_tag 263 = .ok (.iload 9, 2) := by decide +kernel
theorem dX11_tag_265 : decode cX11_tag 265 = .ok (.iaload, 1) := by decide +kernel
theorem dX11_tag_266 : decode cX11_tag 266 = .ok (.aload_n 0, 1) := by decide +kernel
theorem dX11_tag_267 : decode cX11_tag 267 = .ok (.getfield 13, 3) := by decide +kernel
theorem dX11_tag_270 : decode cX11_tag 270 = .ok (.iload 9, 2) := by decide +kernel
theorem dX11_tag_272 : decode cX11_tag 272 = .ok (.iconst 1, 1) := by decide +kernel
theorem dX11_tag_273 : decode cX11_tag 273 = .ok (.iadd, 1) := by decide +kernel
theorem dX11_tag_274 : decode cX11_tag 274 = .ok (.iaload, 1) := by decide +kernel
theorem dX11_tag_275 : decode cX11_tag 275 = .ok (.aload_n 0, 1) := by decide +kernel
theorem dX11_tag_276 : decode cX11_tag 276 = .ok (.getfield 13, 3) := by decide +kernel
theorem dX11_tag_279 : decode cX11_tag 279 = .ok (.iload 9, 2) := by decide +kernel
theorem dX11_tag_281 : decode cX11_tag 281 = .ok (.iconst 2, 1) := by decide +kernel
theorem dX11_tag_282 : decode cX11_tag 282 = .ok (.iadd, 1) := by decide +kernel
theorem dX11_tag_283 : decode cX11_tag 283 = .ok (.iaload, 1) := by decide +kernel
theorem dX11_tag_284 : decode cX11_tag 284 = .ok (.invokevirtual 71, 3) := by decide +kernel
theorem dX11_tag_287 : decode cX11_tag 287 = .ok (.goto 45, 3) := by decide +kernel
theorem dX11_tag_290 : decode cX11_tag 290 = .ok (.aload_n 0, 1) := by decide +kernel
theorem dX11_tag_291 : decode cX11_tag 291 = .ok (.iload 5, 2) := by decide +kernel
theorem dX11_tag_293 : decode cX11_tag 293 = .ok (.iload 8, 2) := by decide +kernel
theorem dX11_tag_295 : decode cX11_tag 295 = .ok (.aload_n 0, 1) := by decide +kernel
theorem dX11_tag_296 : decode cX11_tag 296 = .ok (.getfield 13, 3) := by decide +kernel
theorem dX11_tag_299 : decode cX11_tag 299 = .ok (.iload 9, 2) := by decide +kernel
theorem dX11_tag_301 : decode cX11_tag 301 = .ok (.iaload, 1) := by decide +kernel
theorem dX11_tag_302 : decode cX11_tag 302 = .ok (.aload_n 0, 1) := by decide +kernel
theorem dX11_tag_303 : decode cX11_tag 303 = .ok (.getfield 13, 3) := by decide +kernel
theorem dX11_tag_306 : decode cX11_tag 306 = .ok (.iload 9, 2) := by decide +kernel
theorem dX11_tag_308 : decode cX11_tag 308 = .ok (.iconst 1, 1) := by decide +kernel
theorem dX11_tag_309 : decode cX11_tag 309 = .ok (.iadd, 1) := by decide +kernel
theorem dX11_tag_310 : decode cX11_tag 310 = .ok (.iaload, 1) := by decide +kernel
theorem dX11_tag_311 : decode cX11_tag 311 = .ok (.aload_n 0, 1) := by decide +kernel
theorem dX11_tag_312 : decode cX11_tag 312 = .ok (.getfield 13, 3) := by decide +kernel
theorem dX11_tag_315 : decode cX11_tag 315 = .ok (.iload 9, 2) := by decide +kernel
theorem dX11_tag_317 : decode cX11_tag 317 = .ok (.iconst 2, 1) := by decide +kernel
theorem dX11_tag_318 : decode cX11_tag 318 = .ok (.iadd, 1) := by decide +kernel
theorem dX11_tag_319 : decode cX11_tag 319 = .ok (.iaload, 1) := by decide +kernel
theorem dX11_tag_320 : decode cX11_tag 320 = .ok (.aload_n 0, 1) := by decide +kernel
theorem dX11_tag_321 : decode cX11_tag 321 = .ok (.getfield 13, 3) := by decide +kernel
theorem dX11_tag_324 : decode cX11_tag 324 = .ok (.iload 9, 2) := by decide +kernel
theorem dX11_tag_326 : decode cX11_tag 326 = .ok (.iconst 3, 1) := by decide +kernel
theorem dX11_tag_327 : decode cX11_tag 327 = .ok (.iadd, 1) := by decide +kernel
theorem dX11_tag_328 : decode cX11_tag 328 = .ok (.iaload, 1) := by decide +kernel
theorem dX11_tag_329 : decode cX11_tag 329 = .ok (.invokevirtual 71, 3) := by decide +kernel
theorem dX11_tag_332 : decode cX11_tag 332 = .ok (.iinc 8 1, 3) := by decide +kernel
theorem dX11_tag_335 : decode cX11_tag 335 = .ok (.goto (-109), 3) := by decide +kernel
theorem dX11_tag_338 : decode cX11_tag 338 = .ok (.aload_n 0, 1) := by decide +kernel
theorem dX11_tag_339 : decode cX11_tag 339 = .ok (.getfield 16, 3) := by decide +kernel
theorem dX11_tag_342 : decode cX11_tag 342 = .ok (.iload 5, 2) := by decide +kernel
theorem dX11_tag_344 : decode cX11_tag 344 = .ok (.iconst 0, 1) := by decide +kernel
theorem dX11_tag_345 : decode cX11_tag 345 = .ok (.bastore, 1) := by decide +kernel
theorem dX11_tag_346 : decode cX11_tag 346 = .ok (.aload_n 0, 1) := by decide +kernel
theorem dX11_tag_347 : decode cX11_tag 347 = .ok (.getfield 20, 3) := by decide +kernel
theorem dX11_tag_350 : decode cX11_tag 350 = .ok (.iload 5, 2) := by decide +kernel
theorem dX11_tag_352 : decode cX11_tag 352 = .ok (.aload_n 0, 1) := by decide +kernel
theorem dX11_tag_353 : decode cX11_tag 353 = .ok (.getfield 29, 3) := by decide +kernel
theorem dX11_tag_356 : decode cX11_tag 356 = .ok (.ifCond .eq 7, 3) := by decide +kernel
theorem dX11_tag_359 : decode cX11_tag 359 = .ok (.iconst 1, 1) := by decide +kernel
theorem dX11_tag_360 : decode cX11_tag 360 = .ok (.goto 4, 3) := by decide +kernel
theorem dX11_tag_363 : decode cX11_tag 363 = .ok (.iconst 0, 1) := by decide +kernel
theorem dX11_tag_364 : decode cX11_tag 364 = .ok (.iastore, 1) := by decide +kernel
theorem dX11_tag_365 : decode cX11_tag 365 = .ok (.aload_n 0, 1) := by decide +kernel
theorem dX11_tag_366 : decode cX11_tag 366 = .ok (.getfield 23, 3) := by decide +kernel
theorem dX11_tag_369 : decode cX11_tag 369 = .ok (.iload 5, 2) := by decide +kernel
theorem dX11_tag_371 : decode cX11_tag 371 = .ok (.iconst 1, 1) := by decide +kernel
theorem dX11_tag_372 : decode cX11_tag 372 = .ok (.iastore, 1) := by decide +kernel
theorem dX11_tag_373 : decode cX11_tag 373 = .ok (.iload 5, 2) := by decide +kernel
theorem dX11_tag_375 : decode cX11_tag 375 = .ok (.ireturn, 1) := by decide +kernel
theorem dX11_levels_0 : decode cX11_levels 0 = .ok (.aload_n 0, 1) := by decide +kernel
theorem dX11_levels_1 : decode cX11_levels 1 = .ok (.getfield 7, 3) := by decide +kernel
theorem dX11_levels_4 : decode cX11_levels 4 = .ok (.iload_n 1, 1) := by decide +kernel
theorem dX11_levels_5 : decode cX11_levels 5 = .ok (.iaload, 1) := by decide +kernel
theorem dX11_levels_6 : decode cX11_levels 6 = .ok (.iconst 3, 1) := by decide +kernel
theorem dX11_levels_7 : decode cX11_levels 7 = .ok (.idiv, 1) := by decide +kernel
theorem dX11_levels_8 : decode cX11_levels 8 = .ok (.ireturn, 1) := by decide +kernel
theorem dX11_isTag_0 : decode cX11_isTag 0 = .ok (.iload_n 1, 1) := by decide +kernel
theorem dX11_isTag_1 : decode cX11_isTag 1 = .ok (.iconst 1, 1) := by decide +kernel
theorem dX11_isTag_2 : decode cX11_isTag 2 = .ok (.if_icmp .lt 15, 3) := by decide +kernel
theorem dX11_isTag_5 : decode cX11_isTag 5 = .ok (.iload_n 1, 1) := by decide +kernel
theorem dX11_isTag_6 : decode cX11_isTag 6 = .ok (.aload_n 0, 1) := by decide +kernel
theorem dX11_isTag_7 : decode cX11_isTag 7 = .ok (.getfield 67, 3) := by decide +kernel
theorem dX11_isTag_10 : decode cX11_isTag 10 = .ok (.if_icmp .gt 7, 3) := by decide +kernel
theorem dX11_isTag_13 : decode cX11_isTag 13 = .ok (.iconst 1, 1) := by decide +kernel
theorem dX11_isTag_14 : decode cX11_isTag 14 = .ok (.goto 4, 3) := by decide +kernel
theorem dX11_isTag_17 : decode cX11_isTag 17 = .ok (.iconst 0, 1) := by decide +kernel
theorem dX11_isTag_18 : decode cX11_isTag 18 = .ok (.ireturn, 1) := by decide +kernel
theorem dX11_out_0 : decode cX11_out 0 = .ok (.aload_n 0, 1) := by decide +kernel
theorem dX11_out_1 : decode cX11_out 1 = .ok (.iload_n 1, 1) := by decide +kernel
theorem dX11_out_2 : decode cX11_out 2 = .ok (.invokevirtual 75, 3) := by decide +kernel
theorem dX11_out_5 : decode cX11_out 5 = .ok (.ifCond .ne 6, 3) := by decide +kernel
theorem dX11_out_8 : decode cX11_out 8 = .ok (.bipush (-11), 2) := by decide +kernel
theorem dX11_out_10 : decode cX11_out 10 = .ok (.ireturn, 1) := by decide +kernel
theorem dX11_out_11 : decode cX11_out 11 = .ok (.aload_n 0, 1) := by decide +kernel
theorem dX11_out_12 : decode cX11_out 12 = .ok (.getfield 16, 3) := by decide +kernel
theorem dX11_out_15 : decode cX11_out 15 = .ok (.iload_n 1, 1) := by decide +kernel
theorem dX11_out_16 : decode cX11_out 16 = .ok (.baload, 1) := by decide +kernel
theorem dX11_out_17 : decode cX11_out 17 = .ok (.iload_n 2, 1) := by decide +kernel
theorem dX11_out_18 : decode cX11_out 18 = .ok (.if_icmp .ne 5, 3) := by decide +kernel
theorem dX11_out_21 : decode cX11_out 21 = .ok (.iconst 0, 1) := by decide +kernel
theorem dX11_out_22 : decode cX11_out 22 = .ok (.ireturn, 1) := by decide +kernel
theorem dX11_out_23 : decode cX11_out 23 = .ok (.aload_n 0, 1) := by decide +kernel
theorem dX11_out_24 : decode cX11_out 24 = .ok (.getfield 16, 3) := by decide +kernel
theorem dX11_out_27 : decode cX11_out 27 = .ok (.iload_n 1, 1) := by decide +kernel
theorem dX11_out_28 : decode cX11_out 28 = .ok (.iload_n 2, 1) := by decide +kernel
theorem dX11_out_29 : decode cX11_out 29 = .ok (.bastore, 1) := by decide +kernel
theorem dX11_out_30 : decode cX11_out 30 = .ok (.aload_n 0, 1) := by decide +kernel
theorem dX11_out_31 : decode cX11_out 31 = .ok (.getfield 20, 3) := by decide +kernel
theorem dX11_out_34 : decode cX11_out 34 = .ok (.iload_n 1, 1) := by decide +kernel
theorem dX11_out_35 : decode cX11_out 35 = .ok (.iload_n 2, 1) := by decide +kernel
theorem dX11_out_36 : decode cX11_out 36 = .ok (.ifCond .ne 10, 3) := by decide +kernel
theorem dX11_out_39 : decode cX11_out 39 = .ok (.aload_n 0, 1) := by decide +kernel
theorem dX11_out_40 : decode cX11_out 40 = .ok (.getfield 29, 3) := by decide +kernel
theorem dX11_out_43 : decode cX11_out 43 = .ok (.ifCond .ne 7, 3) := by decide +kernel
theorem dX11_out_46 : decode cX11_out 46 = .ok (.iconst 0, 1) := by decide +kernel
theorem dX11_out_47 : decode cX11_out 47 = .ok (.goto 4, 3) := by decide +kernel
theorem dX11_out_50 : decode cX11_out 50 = .ok (.iconst 1, 1) := by decide +kernel
theorem dX11_out_51 : decode cX11_out 51 = .ok (.iastore, 1) := by decide +kernel
theorem dX11_out_52 : decode cX11_out 52 = .ok (.iconst 1, 1) := by decide +kernel
theorem dX11_out_53 : decode cX11_out 53 = .ok (.ireturn, 1) := by decide +kernel
theorem dX11_field_0 : decode cX11_field 0 = .ok (.aload_n 0, 1) := by decide +kernel
theorem dX11_field_1 : decode cX11_field 1 = .ok (.getfield 29, 3) := by decide +kernel
theorem dX11_field_4 : decode cX11_field 4 = .ok (.iload_n 1, 1) := by decide +kernel
theorem dX11_field_5 : decode cX11_field 5 = .ok (.if_icmp .ne 5, 3) := by decide +kernel
theorem dX11_field_8 : decode cX11_field 8 = .ok (.iconst 0, 1) := by decide +kernel
theorem dX11_field_9 : decode cX11_field 9 = .ok (.ireturn, 1) := by decide +kernel
theorem dX11_field_10 : decode cX11_field 10 = .ok (.aload_n 0, 1) := by decide +kernel
theorem dX11_field_11 : decode cX11_field 11 = .ok (.iload_n 1, 1) := by decide +kernel
theorem dX11_field_12 : decode cX11_field 12 = .ok (.putfield 29, 3) := by decide +kernel
theorem dX11_field_15 : decode cX11_field 15 = .ok (.iconst 1, 1) := by decide +kernel
theorem dX11_field_16 : decode cX11_field 16 = .ok (.istore_n 2, 1) := by decide +kernel
theorem dX11_field_17 : decode cX11_field 17 = .ok (.iload_n 2, 1) := by decide +kernel
theorem dX11_field_18 : decode cX11_field 18 = .ok (.aload_n 0, 1) := by decide +kernel
theorem dX11_field_19 : decode cX11_field 19 = .ok (.getfield 67, 3) := by decide +kernel
theorem dX11_field_22 : decode cX11_field 22 = .ok (.if_icmp .gt 33, 3) := by decide +kernel
theorem dX11_field_25 : decode cX11_field 25 = .ok (.aload_n 0, 1) := by decide +kernel
theorem dX11_field_26 : decode cX11_field 26 = .ok (.getfield 20, 3) := by decide +kernel
theorem dX11_field_29 : decode cX11_field 29 = .ok (.iload_n 2, 1) := by decide +kernel
theorem dX11_field_30 : decode cX11_field 30 = .ok (.iload_n 1, 1) := by decide +kernel
theorem dX11_field_31 : decode cX11_field 31 = .ok (.ifCond .eq 16, 3) := by decide +kernel
theorem dX11_field_34 : decode cX11_field 34 = .ok (.aload_n 0, 1) := by decide +kernel
theorem dX11_field_35 : decode cX11_field 35 = .ok (.getfield 16, 3) := by decide +kernel
theorem dX11_field_38 : decode cX11_field 38 = .ok (.iload_n 2, 1) := by decide +kernel
theorem dX11_field_39 : decode cX11_field 39 = .ok (.baload, 1) := by decide +kernel
theorem dX11_field_40 : decode cX11_field 40 = .ok (.ifCond .ne 7, 3) := by decide +kernel
theorem dX11_field_43 : decode cX11_field 43 = .ok (.iconst 1, 1) := by decide +kernel
theorem dX11_field_44 : decode cX11_field 44 = .ok (.goto 4, 3) := by decide +kernel
theorem dX11_field_47 : decode cX11_field 47 = .ok (.iconst 0, 1) := by decide +kernel
theorem dX11_field_48 : decode cX11_field 48 = .ok (.iastore, 1) := by decide +kernel
theorem dX11_field_49 : decode cX11_field 49 = .ok (.iinc 2 1, 3) := by decide +kernel
theorem dX11_field_52 : decode cX11_field 52 = .ok (.goto (-35), 3) := by decide +kernel
theorem dX11_field_55 : decode cX11_field 55 = .ok (.iconst 1, 1) := by decide +kernel
theorem dX11_field_56 : decode cX11_field 56 = .ok (.ireturn, 1) := by decide +kernel
theorem dX11_bits_0 : decode cX11_bits 0 = .ok (.iload_n 2, 1) := by decide +kernel
theorem dX11_bits_1 : decode cX11_bits 1 = .ok (.iconst 1, 1) := by decide +kernel
theorem dX11_bits_2 : decode cX11_bits 2 = .ok (.if_icmp .lt 9, 3) := by decide +kernel
theorem dX11_bits_5 : decode cX11_bits 5 = .ok (.iload_n 2, 1) := by decide +kernel
theorem dX11_bits_6 : decode cX11_bits 6 = .ok (.bipush 32, 2) := by decide +kernel
theorem dX11_bits_8 : decode cX11_bits 8 = .ok (.if_icmp .le 6, 3) := by decide +kernel
theorem dX11_bits_11 : decode cX11_bits 11 = .ok (.bipush (-12), 2) := by decide +kernel
theorem dX11_bits_13 : decode cX11_bits 13 = .ok (.ireturn, 1) := by decide +kernel
theorem dX11_bits_14 : decode cX11_bits 14 = .ok (.aload_n 0, 1) := by decide +kernel
theorem dX11_bits_15 : decode cX11_bits 15 = .ok (.getfield 79, 3) := by decide +kernel
theorem dX11_bits_18 : decode cX11_bits 18 = .ok (.iload_n 2, 1) := by decide +kernel
theorem dX11_bits_19 : decode cX11_bits 19 = .ok (.iadd, 1) := by decide +kernel
theorem dX11_bits_20 : decode cX11_bits 20 = .ok (.sipush 160, 3) := by decide +kernel
theorem dX11_bits_23 : decode cX11_bits 23 = .ok (.if_icmp .le 6, 3) := by decide +kernel
theorem dX11_bits_26 : decode cX11_bits 26 = .ok (.bipush (-14), 2) := by decide +kernel
theorem dX11_bits_28 : decode cX11_bits 28 = .ok (.ireturn, 1) := by decide +kernel
theorem dX11_bits_29 : decode cX11_bits 29 = .ok (.iconst 0, 1) := by decide +kernel
theorem dX11_bits_30 : decode cX11_bits 30 = .ok (.istore_n 3, 1) := by decide +kernel
theorem dX11_bits_31 : decode cX11_bits 31 = .ok (.iload_n 3, 1) := by decide +kernel
theorem dX11_bits_32 : decode cX11_bits 32 = .ok (.iload_n 2, 1) := by decide +kernel
theorem dX11_bits_33 : decode cX11_bits 33 = .ok (.if_icmp .ge 25, 3) := by decide +kernel
theorem dX11_bits_36 : decode cX11_bits 36 = .ok (.aload_n 0, 1) := by decide +kernel
theorem dX11_bits_37 : decode cX11_bits 37 = .ok (.getfield 33, 3) := by decide +kernel
theorem dX11_bits_40 : decode cX11_bits 40 = .ok (.aload_n 0, 1) := by decide +kernel
theorem dX11_bits_41 : decode cX11_bits 41 = .ok (.getfield 79, 3) := by decide +kernel
theorem dX11_bits_44 : decode cX11_bits 44 = .ok (.iload_n 3, 1) := by decide +kernel
theorem dX11_bits_45 : decode cX11_bits 45 = .ok (.iadd, 1) := by decide +kernel
theorem dX11_bits_46 : decode cX11_bits 46 = .ok (.iload_n 1, 1) := by decide +kernel
theorem dX11_bits_47 : decode cX11_bits 47 = .ok (.iload_n 3, 1) := by decide +kernel
theorem dX11_bits_48 : decode cX11_bits 48 = .ok (.ishr, 1) := by decide +kernel
theorem dX11_bits_49 : decode cX11_bits 49 = .ok (.iconst 1, 1) := by decide +kernel
theorem dX11_bits_50 : decode cX11_bits 50 = .ok (.iand, 1) := by decide +kernel
theorem dX11_bits_51 : decode cX11_bits 51 = .ok (.iastore, 1) := by decide +kernel
theorem dX11_bits_52 : decode cX11_bits 52 = .ok (.iinc 3 1, 3) := by decide +kernel
theorem dX11_bits_55 : decode cX11_bits 55 = .ok (.goto (-24), 3) := by decide +kernel
theorem dX11_bits_58 : decode cX11_bits 58 = .ok (.aload_n 0, 1) := by decide +kernel
theorem dX11_bits_59 : decode cX11_bits 59 = .ok (.dup, 1) := by decide +kernel
theorem dX11_bits_60 : decode cX11_bits 60 = .ok (.getfield 79, 3) := by decide +kernel
theorem dX11_bits_63 : decode cX11_bits 63 = .ok (.iload_n 2, 1) := by decide +kernel
theorem dX11_bits_64 : decode cX11_bits 64 = .ok (.iadd, 1) := by decide +kernel
theorem dX11_bits_65 : decode cX11_bits 65 = .ok (.putfield 79, 3) := by decide +kernel
theorem dX11_bits_68 : decode cX11_bits 68 = .ok (.aload_n 0, 1) := by decide +kernel
theorem dX11_bits_69 : decode cX11_bits 69 = .ok (.getfield 79, 3) := by decide +kernel
theorem dX11_bits_72 : decode cX11_bits 72 = .ok (.ireturn, 1) := by decide +kernel
theorem dX11_parity_0 : decode cX11_parity 0 = .ok (.iconst 1, 1) := by decide +kernel
theorem dX11_parity_1 : decode cX11_parity 1 = .ok (.istore_n 1, 1) := by decide +kernel
theorem dX11_parity_2 : decode cX11_parity 2 = .ok (.iconst 0, 1) := by decide +kernel
theorem dX11_parity_3 : decode cX11_parity 3 = .ok (.istore_n 2, 1) := by decide +kernel
theorem dX11_parity_4 : decode cX11_parity 4 = .ok (.iload_n 2, 1) := by decide +kernel
theorem dX11_parity_5 : decode cX11_parity 5 = .ok (.bipush 8, 2) := by decide +kernel
theorem dX11_parity_7 : decode cX11_parity 7 = .ok (.if_icmp .ge 17, 3) := by decide +kernel
theorem dX11_parity_10 : decode cX11_parity 10 = .ok (.iload_n 1, 1) := by decide +kernel
theorem dX11_parity_11 : decode cX11_parity 11 = .ok (.iload_n 0, 1) := by decide +kernel
theorem dX11_parity_12 : decode cX11_parity 12 = .ok (.iload_n 2, 1) := by decide +kernel
theorem dX11_parity_13 : decode cX11_parity 13 = .ok (.ishr, 1) := by decide +kernel
theorem dX11_parity_14 : decode cX11_parity 14 = .ok (.iconst 1, 1) := by decide +kernel
theorem dX11_parity_15 : decode cX11_parity 15 = .ok (.iand, 1) := by decide +kernel
theorem dX11_parity_16 : decode cX11_parity 16 = .ok (.ixor, 1) := by decide +kernel
theorem dX11_parity_17 : decode cX11_parity 17 = .ok (.istore_n 1, 1) := by decide +kernel
theorem dX11_parity_18 : decode cX11_parity 18 = .ok (.iinc 2 1, 3) := by decide +kernel
theorem dX11_parity_21 : decode cX11_parity 21 = .ok (.goto (-17), 3) := by decide +kernel
theorem dX11_parity_24 : decode cX11_parity 24 = .ok (.iload_n 1, 1) := by decide +kernel
theorem dX11_parity_25 : decode cX11_parity 25 = .ok (.ireturn, 1) := by decide +kernel
theorem dX11_type_0 : decode cX11_type 0 = .ok (.iconst 0, 1) := by decide +kernel
theorem dX11_type_1 : decode cX11_type 1 = .ok (.istore_n 2, 1) := by decide +kernel
theorem dX11_type_2 : decode cX11_type 2 = .ok (.iload_n 2, 1) := by decide +kernel
theorem dX11_type_3 : decode cX11_type 3 = .ok (.bipush 8, 2) := by decide +kernel
theorem dX11_type_5 : decode cX11_type 5 = .ok (.if_icmp .ge 25, 3) := by decide +kernel
theorem dX11_type_8 : decode cX11_type 8 = .ok (.aload_n 0, 1) := by decide +kernel
theorem dX11_type_9 : decode cX11_type 9 = .ok (.getfield 33, 3) := by decide +kernel
theorem dX11_type_12 : decode cX11_type 12 = .ok (.aload_n 0, 1) := by decide +kernel
theorem dX11_type_13 : decode cX11_type 13 = .ok (.getfield 79, 3) := by decide +kernel
theorem dX11_type_16 : decode cX11_type 16 = .ok (.iload_n 2, 1) := by decide +kernel
theorem dX11_type_17 : decode cX11_type 17 = .ok (.iadd, 1) := by decide +kernel
theorem dX11_type_18 : decode cX11_type 18 = .ok (.iload_n 1, 1) := by decide +kernel
theorem dX11_type_19 : decode cX11_type 19 = .ok (.iload_n 2, 1) := by decide +kernel
theorem dX11_type_20 : decode cX11_type 20 = .ok (.ishr, 1) := by decide +kernel
theorem dX11_type_21 : decode cX11_type 21 = .ok (.iconst 1, 1) := by decide +kernel
theorem dX11_type_22 : decode cX11_type 22 = .ok (.iand, 1) := by decide +kernel
theorem dX11_type_23 : decode cX11_type 23 = .ok (.iastore, 1) := by decide +kernel
theorem dX11_type_24 : decode cX11_type 24 = .ok (.iinc 2 1, 3) := by decide +kernel
theorem dX11_type_27 : decode cX11_type 27 = .ok (.goto (-25), 3) := by decide +kernel
theorem dX11_type_30 : decode cX11_type 30 = .ok (.aload_n 0, 1) := by decide +kernel
theorem dX11_type_31 : decode cX11_type 31 = .ok (.getfield 33, 3) := by decide +kernel
theorem dX11_type_34 : decode cX11_type 34 = .ok (.aload_n 0, 1) := by decide +kernel
theorem dX11_type_35 : decode cX11_type 35 = .ok (.getfield 79, 3) := by decide +kernel
theorem dX11_type_38 : decode cX11_type 38 = .ok (.bipush 8, 2) := by decide +kernel
theorem dX11_type_40 : decode cX11_type 40 = .ok (.iadd, 1) := by decide +kernel
theorem dX11_type_41 : decode cX11_type 41 = .ok (.iload_n 1, 1) := by decide +kernel
theorem dX11_type_42 : decode cX11_type 42 = .ok (.invokestatic 82, 3) := by decide +kernel
theorem dX11_type_45 : decode cX11_type 45 = .ok (.iastore, 1) := by decide +kernel
theorem dX11_type_46 : decode cX11_type 46 = .ok (.aload_n 0, 1) := by decide +kernel
theorem dX11_type_47 : decode cX11_type 47 = .ok (.dup, 1) := by decide +kernel
theorem dX11_type_48 : decode cX11_type 48 = .ok (.getfield 79, 3) := by decide +kernel
theorem dX11_type_51 : decode cX11_type 51 = .ok (.bipush 9, 2) := by decide +kernel
theorem dX11_type_53 : decode cX11_type 53 = .ok (.iadd, 1) := by decide +kernel
theorem dX11_type_54 : decode cX11_type 54 = .ok (.putfield 79, 3) := by decide +kernel
theorem dX11_type_57 : decode cX11_type 57 = .ok (.aload_n 0, 1) := by decide +kernel
theorem dX11_type_58 : decode cX11_type 58 = .ok (.getfield 79, 3) := by decide +kernel
theorem dX11_type_61 : decode cX11_type 61 = .ok (.ireturn, 1) := by decide +kernel
theorem dX11_octet_0 : decode cX11_octet 0 = .ok (.aload_n 0, 1) := by decide +kernel
theorem dX11_octet_1 : decode cX11_octet 1 = .ok (.getfield 79, 3) := by decide +kernel
theorem dX11_octet_4 : decode cX11_octet 4 = .ok (.bipush 9, 2) := by decide +kernel
theorem dX11_octet_6 : decode cX11_octet 6 = .ok (.iadd, 1) := by decide +kernel
theorem dX11_octet_7 : decode cX11_octet 7 = .ok (.sipush 160, 3) := by decide +kernel
theorem dX11_octet_10 : decode cX11_octet 10 = .ok (.if_icmp .le 8, 3) := by decide +kernel
theorem dX11_octet_13 : decode cX11_octet 13 = .ok (.bipush (-14), 2) := by decide +kernel
theorem dX11_octet_15 : decode cX11_octet 15 = .ok (.goto 12, 3) := by decide +kernel
theorem dX11_octet_18 : decode cX11_octet 18 = .ok (.aload_n 0, 1) := by decide +kernel
theorem dX11_octet_19 : decode cX11_octet 19 = .ok (.iload_n 1, 1) := by decide +kernel
theorem dX11_octet_20 : decode cX11_octet 20 = .ok (.sipush 255, 3) := by decide +kernel
theorem dX11_octet_23 : decode cX11_octet 23 = .ok (.iand, 1) := by decide +kernel
theorem dX11_octet_24 : decode cX11_octet 24 = .ok (.invokevirtual 86, 3) := by decide +kernel
theorem dX11_octet_27 : decode cX11_octet 27 = .ok (.ireturn, 1) := by decide +kernel
theorem dX11_read_0 : decode cX11_read 0 = .ok (.iconst 0, 1) := by decide +kernel
theorem dX11_read_1 : decode cX11_read 1 = .ok (.istore_n 2, 1) := by decide +kernel
theorem dX11_read_2 : decode cX11_read 2 = .ok (.iconst 0, 1) := by decide +kernel
theorem dX11_read_3 : decode cX11_read 3 = .ok (.istore_n 3, 1) := by decide +kernel
theorem dX11_read_4 : decode cX11_read 4 = .ok (.iload_n 3, 1) := by decide +kernel
theorem dX11_read_5 : decode cX11_read 5 = .ok (.bipush 8, 2) := by decide +kernel
theorem dX11_read_7 : decode cX11_read 7 = .ok (.if_icmp .ge 19, 3) := by decide +kernel
theorem dX11_read_10 : decode cX11_read 10 = .ok (.iload_n 2, 1) := by decide +kernel
theorem dX11_read_11 : decode cX11_read 11 = .ok (.aload_n 0, 1) := by decide +kernel
theorem dX11_read_12 : decode cX11_read 12 = .ok (.iload_n 1, 1) := by decide +kernel
theorem dX11_read_13 : decode cX11_read 13 = .ok (.iload_n 3, 1) := by decide +kernel
theorem dX11_read_14 : decode cX11_read 14 = .ok (.iadd, 1) := by decide +kernel
theorem dX11_read_15 : decode cX11_read 15 = .ok (.iaload, 1) := by decide +kernel
theorem dX11_read_16 : decode cX11_read 16 = .ok (.iload_n 3, 1) := by decide +kernel
theorem dX11_read_17 : decode cX11_read 17 = .ok (.ishl, 1) := by decide +kernel
theorem dX11_read_18 : decode cX11_read 18 = .ok (.ior, 1) := by decide +kernel
theorem dX11_read_19 : decode cX11_read 19 = .ok (.istore_n 2, 1) := by decide +kernel
theorem dX11_read_20 : decode cX11_read 20 = .ok (.iinc 3 1, 3) := by decide +kernel
theorem dX11_read_23 : decode cX11_read 23 = .ok (.goto (-19), 3) := by decide +kernel
theorem dX11_read_26 : decode cX11_read 26 = .ok (.iload_n 2, 1) := by decide +kernel
theorem dX11_read_27 : decode cX11_read 27 = .ok (.invokestatic 82, 3) := by decide +kernel
theorem dX11_read_30 : decode cX11_read 30 = .ok (.aload_n 0, 1) := by decide +kernel
theorem dX11_read_31 : decode cX11_read 31 = .ok (.iload_n 1, 1) := by decide +kernel
theorem dX11_read_32 : decode cX11_read 32 = .ok (.bipush 8, 2) := by decide +kernel
theorem dX11_read_34 : decode cX11_read 34 = .ok (.iadd, 1) := by decide +kernel
theorem dX11_read_35 : decode cX11_read 35 = .ok (.iaload, 1) := by decide +kernel
theorem dX11_read_36 : decode cX11_read 36 = .ok (.if_icmp .ne 7, 3) := by decide +kernel
theorem dX11_read_39 : decode cX11_read 39 = .ok (.iload_n 2, 1) := by decide +kernel
theorem dX11_read_40 : decode cX11_read 40 = .ok (.goto 4, 3) := by decide +kernel
theorem dX11_read_43 : decode cX11_read 43 = .ok (.iconst (-1), 1) := by decide +kernel
theorem dX11_read_44 : decode cX11_read 44 = .ok (.ireturn, 1) := by decide +kernel
theorem dX11_checked_0 : decode cX11_checked 0 = .ok (.iload_n 1, 1) := by decide +kernel
theorem dX11_checked_1 : decode cX11_checked 1 = .ok (.iload_n 0, 1) := by decide +kernel
theorem dX11_checked_2 : decode cX11_checked 2 = .ok (.ixor, 1) := by decide +kernel
theorem dX11_checked_3 : decode cX11_checked 3 = .ok (.sipush 255, 3) := by decide +kernel
theorem dX11_checked_6 : decode cX11_checked 6 = .ok (.iand, 1) := by decide +kernel
theorem dX11_checked_7 : decode cX11_checked 7 = .ok (.istore_n 2, 1) := by decide +kernel
theorem dX11_checked_8 : decode cX11_checked 8 = .ok (.iload_n 2, 1) := by decide +kernel
theorem dX11_checked_9 : decode cX11_checked 9 = .ok (.iload_n 2, 1) := by decide +kernel
theorem dX11_checked_10 : decode cX11_checked 10 = .ok (.bipush 16, 2) := by decide +kernel
theorem dX11_checked_12 : decode cX11_checked 12 = .ok (.imul, 1) := by decide +kernel
theorem dX11_checked_13 : decode cX11_checked 13 = .ok (.ixor, 1) := by decide +kernel
theorem dX11_checked_14 : decode cX11_checked 14 = .ok (.sipush 255, 3) := by decide +kernel
theorem dX11_checked_17 : decode cX11_checked 17 = .ok (.iand, 1) := by decide +kernel
theorem dX11_checked_18 : decode cX11_checked 18 = .ok (.istore_n 2, 1) := by decide +kernel
theorem dX11_checked_19 : decode cX11_checked 19 = .ok (.iload_n 0, 1) := by decide +kernel
theorem dX11_checked_20 : decode cX11_checked 20 = .ok (.sipush 256, 3) := by decide +kernel
theorem dX11_checked_23 : decode cX11_checked 23 = .ok (.idiv, 1) := by decide +kernel
theorem dX11_checked_24 : decode cX11_checked 24 = .ok (.iload_n 2, 1) := by decide +kernel
theorem dX11_checked_25 : decode cX11_checked 25 = .ok (.sipush 256, 3) := by decide +kernel
theorem dX11_checked_28 : decode cX11_checked 28 = .ok (.imul, 1) := by decide +kernel
theorem dX11_checked_29 : decode cX11_checked 29 = .ok (.ixor, 1) := by decide +kernel
theorem dX11_checked_30 : decode cX11_checked 30 = .ok (.iload_n 2, 1) := by decide +kernel
theorem dX11_checked_31 : decode cX11_checked 31 = .ok (.bipush 8, 2) := by decide +kernel
theorem dX11_checked_33 : decode cX11_checked 33 = .ok (.imul, 1) := by decide +kernel
theorem dX11_checked_34 : decode cX11_checked 34 = .ok (.ixor, 1) := by decide +kernel
theorem dX11_checked_35 : decode cX11_checked 35 = .ok (.iload_n 2, 1) := by decide +kernel
theorem dX11_checked_36 : decode cX11_checked 36 = .ok (.bipush 16, 2) := by decide +kernel
theorem dX11_checked_38 : decode cX11_checked 38 = .ok (.idiv, 1) := by decide +kernel
theorem dX11_checked_39 : decode cX11_checked 39 = .ok (.ixor, 1) := by decide +kernel
theorem dX11_checked_40 : decode cX11_checked 40 = .ok (.ldc 89, 2) := by decide +kernel
theorem dX11_checked_42 : decode cX11_checked 42 = .ok (.iand, 1) := by decide +kernel
theorem dX11_checked_43 : decode cX11_checked 43 = .ok (.ireturn, 1) := by decide +kernel
theorem dX11_check_0 : decode cX11_check 0 = .ok (.aload_n 0, 1) := by decide +kernel
theorem dX11_check_1 : decode cX11_check 1 = .ok (.getfield 79, 3) := by decide +kernel
theorem dX11_check_4 : decode cX11_check 4 = .ok (.ifCond .eq 13, 3) := by decide +kernel
theorem dX11_check_7 : decode cX11_check 7 = .ok (.aload_n 0, 1) := by decide +kernel
theorem dX11_check_8 : decode cX11_check 8 = .ok (.getfield 79, 3) := by decide +kernel
theorem dX11_check_11 : decode cX11_check 11 = .ok (.bipush 9, 2) := by decide +kernel
theorem dX11_check_13 : decode cX11_check 13 = .ok (.irem, 1) := by decide +kernel
theorem dX11_check_14 : decode cX11_check 14 = .ok (.ifCond .eq 6, 3) := by decide +kernel
theorem dX11_check_17 : decode cX11_check 17 = .ok (.bipush (-13), 2) := by decide +kernel
theorem dX11_check_19 : decode cX11_check 19 = .ok (.ireturn, 1) := by decide +kernel
theorem dX11_check_20 : decode cX11_check 20 = .ok (.sipush 25443, 3) := by decide +kernel
theorem dX11_check_23 : decode cX11_check 23 = .ok (.istore_n 1, 1) := by decide +kernel
theorem dX11_check_24 : decode cX11_check 24 = .ok (.iconst 0, 1) := by decide +kernel
theorem dX11_check_25 : decode cX11_check 25 = .ok (.istore_n 2, 1) := by decide +kernel
theorem dX11_check_26 : decode cX11_check 26 = .ok (.iload_n 2, 1) := by decide +kernel
theorem dX11_check_27 : decode cX11_check 27 = .ok (.aload_n 0, 1) := by decide +kernel
theorem dX11_check_28 : decode cX11_check 28 = .ok (.getfield 79, 3) := by decide +kernel
theorem dX11_check_31 : decode cX11_check 31 = .ok (.if_icmp .ge 31, 3) := by decide +kernel
theorem dX11_check_34 : decode cX11_check 34 = .ok (.aload_n 0, 1) := by decide +kernel
theorem dX11_check_35 : decode cX11_check 35 = .ok (.getfield 33, 3) := by decide +kernel
theorem dX11_check_38 : decode cX11_check 38 = .ok (.iload_n 2, 1) := by decide +kernel
theorem dX11_check_39 : decode cX11_check 39 = .ok (.invokestatic 90, 3) := by decide +kernel
theorem dX11_check_42 : decode cX11_check 42 = .ok (.istore_n 3, 1) := by decide +kernel
theorem dX11_check_43 : decode cX11_check 43 = .ok (.iload_n 3, 1) := by decide +kernel
theorem dX11_check_44 : decode cX11_check 44 = .ok (.ifCond .ge 6, 3) := by decide +kernel
theorem dX11_check_47 : decode cX11_check 47 = .ok (.bipush (-13), 2) := by decide +kernel
theorem dX11_check_49 : decode cX11_check 49 = .ok (.ireturn, 1) := by decide +kernel
theorem dX11_check_50 : decode cX11_check 50 = .ok (.iload_n 1, 1) := by decide +kernel
theorem dX11_check_51 : decode cX11_check 51 = .ok (.iload_n 3, 1) := by decide +kernel
theorem dX11_check_52 : decode cX11_check 52 = .ok (.invokestatic 94, 3) := by decide +kernel
theorem dX11_check_55 : decode cX11_check 55 = .ok (.istore_n 1, 1) := by decide +kernel
theorem dX11_check_56 : decode cX11_check 56 = .ok (.iinc 2 9, 3) := by decide +kernel
theorem dX11_check_59 : decode cX11_check 59 = .ok (.goto (-33), 3) := by decide +kernel
theorem dX11_check_62 : decode cX11_check 62 = .ok (.aload_n 0, 1) := by decide +kernel
theorem dX11_check_63 : decode cX11_check 63 = .ok (.getfield 79, 3) := by decide +kernel
theorem dX11_check_66 : decode cX11_check 66 = .ok (.bipush 18, 2) := by decide +kernel
theorem dX11_check_68 : decode cX11_check 68 = .ok (.iadd, 1) := by decide +kernel
theorem dX11_check_69 : decode cX11_check 69 = .ok (.sipush 160, 3) := by decide +kernel
theorem dX11_check_72 : decode cX11_check 72 = .ok (.if_icmp .le 6, 3) := by decide +kernel
theorem dX11_check_75 : decode cX11_check 75 = .ok (.bipush (-14), 2) := by decide +kernel
theorem dX11_check_77 : decode cX11_check 77 = .ok (.ireturn, 1) := by decide +kernel
theorem dX11_check_78 : decode cX11_check 78 = .ok (.aload_n 0, 1) := by decide +kernel
theorem dX11_check_79 : decode cX11_check 79 = .ok (.iload_n 1, 1) := by decide +kernel
theorem dX11_check_80 : decode cX11_check 80 = .ok (.sipush 255, 3) := by decide +kernel
theorem dX11_check_83 : decode cX11_check 83 = .ok (.iand, 1) := by decide +kernel
theorem dX11_check_84 : decode cX11_check 84 = .ok (.invokevirtual 86, 3) := by decide +kernel
theorem dX11_check_87 : decode cX11_check 87 = .ok (.pop, 1) := by decide +kernel
theorem dX11_check_88 : decode cX11_check 88 = .ok (.aload_n 0, 1) := by decide +kernel
theorem dX11_check_89 : decode cX11_check 89 = .ok (.iload_n 1, 1) := by decide +kernel
theorem dX11_check_90 : decode cX11_check 90 = .ok (.sipush 256, 3) := by decide +kernel
theorem dX11_check_93 : decode cX11_check 93 = .ok (.idiv, 1) := by decide +kernel
theorem dX11_check_94 : decode cX11_check 94 = .ok (.invokevirtual 86, 3) := by decide +kernel
theorem dX11_check_97 : decode cX11_check 97 = .ok (.ireturn, 1) := by decide +kernel
theorem dX11_understand_0 : decode cX11_understand 0 = .ok (.aload_n 0, 1) := by decide +kernel
theorem dX11_understand_1 : decode cX11_understand 1 = .ok (.iconst 0, 1) := by decide +kernel
theorem dX11_understand_2 : decode cX11_understand 2 = .ok (.putfield 98, 3) := by decide +kernel
theorem dX11_understand_5 : decode cX11_understand 5 = .ok (.aload_n 0, 1) := by decide +kernel
theorem dX11_understand_6 : decode cX11_understand 6 = .ok (.iconst 0, 1) := by decide +kernel
theorem dX11_understand_7 : decode cX11_understand 7 = .ok (.putfield 101, 3) := by decide +kernel
theorem dX11_understand_10 : decode cX11_understand 10 = .ok (.aload_n 0, 1) := by decide +kernel
theorem dX11_understand_11 : decode cX11_understand 11 = .ok (.getfield 104, 3) := by decide +kernel
theorem dX11_understand_14 : decode cX11_understand 14 = .ok (.bipush 7, 2) := by decide +kernel
theorem dX11_understand_16 : decode cX11_understand 16 = .ok (.if_icmp .ne 56, 3) := by decide +kernel
theorem dX11_understand_19 : decode cX11_understand 19 = .ok (.iconst 0, 1) := by decide +kernel
theorem dX11_understand_20 : decode cX11_understand 20 = .ok (.istore_n 1, 1) := by decide +kernel
theorem dX11_understand_21 : decode cX11_understand 21 = .ok (.iconst 0, 1) := by decide +kernel
theorem dX11_understand_22 : decode cX11_understand 22 = .ok (.istore_n 2, 1) := by decide +kernel
theorem dX11_understand_23 : decode cX11_understand 23 = .ok (.iload_n 2, 1) := by decide +kernel
theorem dX11_understand_24 : decode cX11_understand 24 = .ok (.bipush 7, 2) := by decide +kernel
theorem dX11_understand_26 : decode cX11_understand 26 = .ok (.if_icmp .ge 20, 3) := by decide +kernel
theorem dX11_understand_29 : decode cX11_understand 29 = .ok (.iload_n 1, 1) := by decide +kernel
theorem dX11_understand_30 : decode cX11_understand 30 = .ok (.aload_n 0, 1) := by decide +kernel
theorem dX11_understand_31 : decode cX11_understand 31 = .ok (.getfield 36, 3) := by decide +kernel
theorem dX11_understand_34 : decode cX11_understand 34 = .ok (.iload_n 2, 1) := by decide +kernel
theorem dX11_understand_35 : decode cX11_understand 35 = .ok (.iaload, 1) := by decide +kernel
theorem dX11_understand_36 : decode cX11_understand 36 = .ok (.iload_n 2, 1) := by decide +kernel
theorem dX11_understand_37 : decode cX11_understand 37 = .ok (.ishl, 1) := by decide +kernel
theorem dX11_understand_38 : decode cX11_understand 38 = .ok (.ior, 1) := by decide +kernel
theorem dX11_understand_39 : decode cX11_understand 39 = .ok (.istore_n 1, 1) := by decide +kernel
theorem dX11_understand_40 : decode cX11_understand 40 = .ok (.iinc 2 1, 3) := by decide +kernel
theorem dX11_understand_43 : decode cX11_understand 43 = .ok (.goto (-20), 3) := by decide +kernel
theorem dX11_understand_46 : decode cX11_understand 46 = .ok (.aload_n 0, 1) := by decide +kernel
theorem dX11_understand_47 : decode cX11_understand 47 = .ok (.iload_n 1, 1) := by decide +kernel
theorem dX11_understand_48 : decode cX11_understand 48 = .ok (.bipush 38, 2) := by decide +kernel
theorem dX11_understand_50 : decode cX11_understand 50 = .ok (.if_icmp .ne 7, 3) := by decide +kernel
theorem dX11_understand_53 : decode cX11_understand 53 = .ok (.iconst 1, 1) := by decide +kernel
theorem dX11_understand_54 : decode cX11_understand 54 = .ok (.goto 14, 3) := by decide +kernel
theorem dX11_understand_57 : decode cX11_understand 57 = .ok (.iload_n 1, 1) := by decide +kernel
theorem dX11_understand_58 : decode cX11_understand 58 = .ok (.bipush 82, 2) := by decide +kernel
theorem dX11_understand_60 : decode cX11_understand 60 = .ok (.if_icmp .ne 7, 3) := by decide +kernel
theorem dX11_understand_63 : decode cX11_understand 63 = .ok (.iconst 2, 1) := by decide +kernel
theorem dX11_understand_64 : decode cX11_understand 64 = .ok (.goto 4, 3) := by decide +kernel
theorem dX11_understand_67 : decode cX11_understand 67 = .ok (.iconst 0, 1) := by decide +kernel
theorem dX11_understand_68 : decode cX11_understand 68 = .ok (.putfield 98, 3) := by decide +kernel
theorem dX11_understand_71 : decode cX11_understand 71 = .ok (.return_, 1) := by decide +kernel
theorem dX11_understand_72 : decode cX11_understand 72 = .ok (.aload_n 0, 1) := by decide +kernel
theorem dX11_understand_73 : decode cX11_understand 73 = .ok (.getfield 104, 3) := by decide +kernel
theorem dX11_understand_76 : decode cX11_understand 76 = .ok (.bipush 9, 2) := by decide +kernel
theorem dX11_understand_78 : decode cX11_understand 78 = .ok (.idiv, 1) := by decide +kernel
theorem dX11_understand_79 : decode cX11_understand 79 = .ok (.istore_n 1, 1) := by decide +kernel
theorem dX11_understand_80 : decode cX11_understand 80 = .ok (.iconst 0, 1) := by decide +kernel
theorem dX11_understand_81 : decode cX11_understand 81 = .ok (.istore_n 2, 1) := by decide +kernel
theorem dX11_understand_82 : decode cX11_understand 82 = .ok (.iload_n 2, 1) := by decide +kernel
theorem dX11_understand_83 : decode cX11_understand 83 = .ok (.iload_n 1, 1) := by decide +kernel
theorem dX11_understand_84 : decode cX11_understand 84 = .ok (.if_icmp .ge 36, 3) := by decide +kernel
theorem dX11_understand_87 : decode cX11_understand 87 = .ok (.aload_n 0, 1) := by decide +kernel
theorem dX11_understand_88 : decode cX11_understand 88 = .ok (.getfield 39, 3) := by decide +kernel
theorem dX11_understand_91 : decode cX11_understand 91 = .ok (.iload_n 2, 1) := by decide +kernel
theorem dX11_understand_92 : decode cX11_understand 92 = .ok (.aload_n 0, 1) := by decide +kernel
theorem dX11_understand_93 : decode cX11_understand 93 = .ok (.getfield 36, 3) := by decide +kernel
theorem dX11_understand_96 : decode cX11_understand 96 = .ok (.bipush 9, 2) := by decide +kernel
theorem dX11_understand_98 : decode cX11_understand 98 = .ok (.iload_n 2, 1) := by decide +kernel
theorem dX11_understand_99 : decode cX11_understand 99 = .ok (.imul, 1) := by decide +kernel
theorem dX11_understand_100 : decode cX11_understand 100 = .ok (.invokestatic 90, 3) := by decide +kernel
theorem dX11_understand_103 : decode cX11_understand 103 = .ok (.iastore, 1) := by decide +kernel
theorem dX11_understand_104 : decode cX11_understand 104 = .ok (.aload_n 0, 1) := by decide +kernel
theorem dX11_understand_105 : decode cX11_understand 105 = .ok (.getfield 39, 3) := by decide +kernel
theorem dX11_understand_108 : decode cX11_understand 108 = .ok (.iload_n 2, 1) := by decide +kernel
theorem dX11_understand_109 : decode cX11_understand 109 = .ok (.iaload, 1) := by decide +kernel
theorem dX11_understand_110 : decode cX11_understand 110 = .ok (.ifCond .ge 4, 3) := by decide +kernel
theorem dX11_understand_113 : decode cX11_understand 113 = .ok (.return_, 1) := by decide +kernel
theorem dX11_understand_114 : decode cX11_understand 114 = .ok (.iinc 2 1, 3) := by decide +kernel
theorem dX11_understand_117 : decode cX11_understand 117 = .ok (.goto (-35), 3) := by decide +kernel
theorem dX11_understand_120 : decode cX11_understand 120 = .ok (.iload_n 1, 1) := by decide +kernel
theorem dX11_understand_121 : decode cX11_understand 121 = .ok (.iconst 2, 1) := by decide +kernel
theorem dX11_understand_122 : decode cX11_understand 122 = .ok (.if_icmp .ge 4, 3) := by decide +kernel
theorem dX11_understand_125 : decode cX11_understand 125 = .ok (.return_, 1) := by decide +kernel
theorem dX11_understand_126 : decode cX11_understand 126 = .ok (.aload_n 0, 1) := by decide +kernel
theorem dX11_understand_127 : decode cX11_understand 127 = .ok (.getfield 39, 3) := by decide +kernel
theorem dX11_understand_130 : decode cX11_understand 130 = .ok (.iconst 0, 1) := by decide +kernel
theorem dX11_understand_131 : decode cX11_understand 131 = .ok (.iaload, 1) := by decide +kernel
theorem dX11_understand_132 : decode cX11_understand 132 = .ok (.istore_n 2, 1) := by decide +kernel
theorem dX11_understand_133 : decode cX11_understand 133 = .ok (.iload_n 2, 1) := by decide +kernel
theorem dX11_understand_134 : decode cX11_understand 134 = .ok (.sipush 147, 3) := by decide +kernel
theorem dX11_understand_137 : decode cX11_understand 137 = .ok (.if_icmp .eq 17, 3) := by decide +kernel
theorem dX11_understand_140 : decode cX11_understand 140 = .ok (.iload_n 2, 1) := by decide +kernel
theorem dX11_understand_141 : decode cX11_understand 141 = .ok (.sipush 149, 3) := by decide +kernel
theorem dX11_understand_144 : decode cX11_understand 144 = .ok (.if_icmp .eq 10, 3) := by decide +kernel
theorem dX11_understand_147 : decode cX11_understand 147 = .ok (.iload_n 2, 1) := by decide +kernel
theorem dX11_understand_148 : decode cX11_understand 148 = .ok (.sipush 151, 3) := by decide +kernel
theorem dX11_understand_151 : decode cX11_understand 151 = .ok (.if_icmp .ne 7, 3) := by decide +kernel
theorem dX11_understand_154 : decode cX11_understand 154 = .ok (.iconst 1, 1) := by decide +kernel
theorem dX11_understand_155 : decode cX11_understand 155 = .ok (.goto 4, 3) := by decide +kernel
theorem dX11_understand_158 : decode cX11_understand 158 = .ok (.iconst 0, 1) := by decide +kernel
theorem dX11_understand_159 : decode cX11_understand 159 = .ok (.istore_n 3, 1) := by decide +kernel
theorem dX11_understand_160 : decode cX11_understand 160 = .ok (.iload_n 3, 1) := by decide +kernel
theorem dX11_understand_161 : decode cX11_understand 161 = .ok (.ifCond .eq 195, 3) := by decide +kernel
theorem dX11_understand_164 : decode cX11_understand 164 = .ok (.aload_n 0, 1) := by decide +kernel
theorem dX11_understand_165 : decode cX11_understand 165 = .ok (.getfield 39, 3) := by decide +kernel
theorem dX11_understand_168 : decode cX11_understand 168 = .ok (.iconst 1, 1) := by decide +kernel
theorem dX11_understand_169 : decode cX11_understand 169 = .ok (.iaload, 1) := by decide +kernel
theorem dX11_understand_170 : decode cX11_understand 170 = .ok (.bipush 112, 2) := by decide +kernel
theorem dX11_understand_172 : decode cX11_understand 172 = .ok (.if_icmp .eq 184, 3) := by decide +kernel
theorem dX11_understand_175 : decode cX11_understand 175 = .ok (.aload_n 0, 1) := by decide +kernel
theorem dX11_understand_176 : decode cX11_understand 176 = .ok (.getfield 39, 3) := by decide +kernel
theorem dX11_understand_179 : decode cX11_understand 179 = .ok (.iconst 1, 1) := by decide +kernel
theorem dX11_understand_180 : decode cX11_understand 180 = .ok (.iaload, 1) := by decide +kernel
theorem dX11_understand_181 : decode cX11_understand 181 = .ok (.bipush 16, 2) := by decide +kernel
theorem dX11_understand_183 : decode cX11_understand 183 = .ok (.idiv, 1) := by decide +kernel
theorem dX11_understand_184 : decode cX11_understand 184 = .ok (.istore 4, 2) := by decide +kernel
theorem dX11_understand_186 : decode cX11_understand 186 = .ok (.aload_n 0, 1) := by decide +kernel
theorem dX11_understand_187 : decode cX11_understand 187 = .ok (.getfield 39, 3) := by decide +kernel
theorem dX11_understand_190 : decode cX11_understand 190 = .ok (.iconst 1, 1) := by decide +kernel
theorem dX11_understand_191 : decode cX11_understand 191 = .ok (.iaload, 1) := by decide +kernel
theorem dX11_understand_192 : decode cX11_understand 192 = .ok (.bipush 16, 2) := by decide +kernel
theorem dX11_understand_194 : decode cX11_understand 194 = .ok (.irem, 1) := by decide +kernel
theorem dX11_understand_195 : decode cX11_understand 195 = .ok (.istore 5, 2) := by decide +kernel
theorem dX11_understand_197 : decode cX11_understand 197 = .ok (.iload 4, 2) := by decide +kernel
theorem dX11_understand_199 : decode cX11_understand 199 = .ok (.iconst 2, 1) := by decide +kernel
theorem dX11_understand_200 : decode cX11_understand 200 = .ok (.if_icmp .lt 32, 3) := by decide +kernel
theorem dX11_understand_203 : decode cX11_understand 203 = .ok (.iload 4, 2) := by decide +kernel
theorem dX11_understand_205 : decode cX11_understand 205 = .ok (.bipush 6, 2) := by decide +kernel
theorem dX11_understand_207 : decode cX11_understand 207 = .ok (.if_icmp .gt 25, 3) := by decide +kernel
theorem dX11_understand_210 : decode cX11_understand 210 = .ok (.iload 5, 2) := by decide +kernel
theorem dX11_understand_212 : decode cX11_understand 212 = .ok (.bipush 7, 2) := by decide +kernel
theorem dX11_understand_214 : decode cX11_understand 214 = .ok (.if_icmp .gt 18, 3) := by decide +kernel
theorem dX11_understand_217 : decode cX11_understand 217 = .ok (.aload_n 0, 1) := by decide +kernel
theorem dX11_understand_218 : decode cX11_understand 218 = .ok (.getfield 104, 3) := by decide +kernel
theorem dX11_understand_221 : decode cX11_understand 221 = .ok (.bipush 9, 2) := by decide +kernel
theorem dX11_understand_223 : decode cX11_understand 223 = .ok (.iload 4, 2) := by decide +kernel
theorem dX11_understand_225 : decode cX11_understand 225 = .ok (.imul, 1) := by decide +kernel
theorem dX11_understand_226 : decode cX11_understand 226 = .ok (.iload 5, 2) := by decide +kernel
theorem dX11_understand_228 : decode cX11_understand 228 = .ok (.iadd, 1) := by decide +kernel
theorem dX11_understand_229 : decode cX11_understand 229 = .ok (.if_icmp .eq 4, 3) := by decide +kernel
theorem dX11_understand_232 : decode cX11_understand 232 = .ok (.return_, 1) := by decide +kernel
theorem dX11_understand_233 : decode cX11_understand 233 = .ok (.aload_n 0, 1) := by decide +kernel
theorem dX11_understand_234 : decode cX11_understand 234 = .ok (.iconst 3, 1) := by decide +kernel
theorem dX11_understand_235 : decode cX11_understand 235 = .ok (.putfield 98, 3) := by decide +kernel
theorem dX11_understand_238 : decode cX11_understand 238 = .ok (.aload_n 0, 1) := by decide +kernel
theorem dX11_understand_239 : decode cX11_understand 239 = .ok (.iload_n 2, 1) := by decide +kernel
theorem dX11_understand_240 : decode cX11_understand 240 = .ok (.sipush 145, 3) := by decide +kernel
theorem dX11_understand_243 : decode cX11_understand 243 = .ok (.isub, 1) := by decide +kernel
theorem dX11_understand_244 : decode cX11_understand 244 = .ok (.iconst 2, 1) := by decide +kernel
theorem dX11_understand_245 : decode cX11_understand 245 = .ok (.idiv, 1) := by decide +kernel
theorem dX11_understand_246 : decode cX11_understand 246 = .ok (.putfield 107, 3) := by decide +kernel
theorem dX11_understand_249 : decode cX11_understand 249 = .ok (.iconst 0, 1) := by decide +kernel
theorem dX11_understand_250 : decode cX11_understand 250 = .ok (.istore 6, 2) := by decide +kernel
theorem dX11_understand_252 : decode cX11_understand 252 = .ok (.iload 6, 2) := by decide +kernel
theorem dX11_understand_254 : decode cX11_understand 254 = .ok (.bipush 8, 2) := by decide +kernel
theorem dX11_understand_256 : decode cX11_understand 256 = .ok (.iload 4, 2) := by decide +kernel
theorem dX11_understand_258 : decode cX11_understand 258 = .ok (.iconst 2, 1) := by decide +kernel
theorem dX11_understand_259 : decode cX11_understand 259 = .ok (.isub, 1) := by decide +kernel
theorem dX11_understand_260 : decode cX11_understand 260 = .ok (.imul, 1) := by decide +kernel
theorem dX11_understand_261 : decode cX11_understand 261 = .ok (.if_icmp .ge 36, 3) := by decide +kernel
theorem dX11_understand_264 : decode cX11_understand 264 = .ok (.aload_n 0, 1) := by decide +kernel
theorem dX11_understand_265 : decode cX11_understand 265 = .ok (.getfield 42, 3) := by decide +kernel
theorem dX11_understand_268 : decode cX11_understand 268 = .ok (.iload 6, 2) := by decide +kernel
theorem dX11_understand_270 : decode cX11_understand 270 = .ok (.aload_n 0, 1) := by decide +kernel
theorem dX11_understand_271 : decode cX11_understand 271 = .ok (.getfield 39, 3) := by decide +kernel
theorem dX11_understand_274 : decode cX11_understand 274 = .ok (.iconst 2, 1) := by decide +kernel
theorem dX11_understand_275 : decode cX11_understand 275 = .ok (.iload 6, 2) := by decide +kernel
theorem dX11_understand_277 : decode cX11_understand 277 = .ok (.bipush 8, 2) := by decide +kernel
theorem dX11_understand_279 : decode cX11_understand 279 = .ok (.idiv, 1) := by decide +kernel
theorem dX11_understand_280 : decode cX11_understand 280 = .ok (.iadd, 1) := by decide +kernel
theorem dX11_understand_281 : decode cX11_understand 281 = .ok (.iaload, 1) := by decide +kernel
theorem dX11_understand_282 : decode cX11_understand 282 = .ok (.iload 6, 2) := by decide +kernel
theorem dX11_understand_284 : decode cX11_understand 284 = .ok (.bipush 8, 2) := by decide +kernel
theorem dX11_understand_286 : decode cX11_understand 286 = .ok (.irem, 1) := by decide +kernel
theorem dX11_understand_287 : decode cX11_understand 287 = .ok (.ishr, 1) := by decide +kernel
theorem dX11_understand_288 : decode cX11_understand 288 = .ok (.iconst 1, 1) := by decide +kernel
theorem dX11_understand_289 : decode cX11_understand 289 = .ok (.iand, 1) := by decide +kernel
theorem dX11_understand_290 : decode cX11_understand 290 = .ok (.iastore, 1) := by decide +kernel
theorem dX11_understand_291 : decode cX11_understand 291 = .ok (.iinc 6 1, 3) := by decide +kernel
theorem dX11_understand_294 : decode cX11_understand 294 = .ok (.goto (-42), 3) := by decide +kernel
theorem dX11_understand_297 : decode cX11_understand 297 = .ok (.iconst 0, 1) := by decide +kernel
theorem dX11_understand_298 : decode cX11_understand 298 = .ok (.istore 6, 2) := by decide +kernel
theorem dX11_understand_300 : decode cX11_understand 300 = .ok (.iload 6, 2) := by decide +kernel
theorem dX11_understand_302 : decode cX11_understand 302 = .ok (.iload 5, 2) := by decide +kernel
theorem dX11_understand_304 : decode cX11_understand 304 = .ok (.if_icmp .ge 37, 3) := by decide +kernel
theorem dX11_understand_307 : decode cX11_understand 307 = .ok (.aload_n 0, 1) := by decide +kernel
theorem dX11_understand_308 : decode cX11_understand 308 = .ok (.getfield 42, 3) := by decide +kernel
theorem dX11_understand_311 : decode cX11_understand 311 = .ok (.bipush 8, 2) := by decide +kernel
theorem dX11_understand_313 : decode cX11_understand 313 = .ok (.iload 4, 2) := by decide +kernel
theorem dX11_understand_315 : decode cX11_understand 315 = .ok (.iconst 2, 1) := by decide +kernel
theorem dX11_understand_316 : decode cX11_understand 316 = .ok (.isub, 1) := by decide +kernel
theorem dX11_understand_317 : decode cX11_understand 317 = .ok (.imul, 1) := by decide +kernel
theorem dX11_understand_318 : decode cX11_understand 318 = .ok (.iload 6, 2) := by decide +kernel
theorem dX11_understand_320 : decode cX11_understand 320 = .ok (.iadd, 1) := by decide +kernel
theorem dX11_understand_321 : decode cX11_understand 321 = .ok (.aload_n 0, 1) := by decide +kernel
theorem dX11_understand_322 : decode cX11_understand 322 = .ok (.getfield 36, 3) := by decide +kernel
theorem dX11_understand_325 : decode cX11_understand 325 = .ok (.bipush 9, 2) := by decide +kernel
theorem dX11_understand_327 : decode cX11_understand 327 = .ok (.iload 4, 2) := by decide +kernel
theorem dX11_understand_329 : decode cX11_understand 329 = .ok (.imul, 1) := by decide +kernel
theorem dX11_understand_330 : decode cX11_understand 330 = .ok (.iload 6, 2) := by decide +kernel
theorem dX11_understand_332 : decode cX11_understand 332 = .ok (.iadd, 1) := by decide +kernel
theorem dX11_understand_333 : decode cX11_understand 333 = .ok (.iaload, 1) := by decide +kernel
theorem dX11_understand_334 : decode cX11_understand 334 = .ok (.iastore, 1) := by decide +kernel
theorem dX11_understand_335 : decode cX11_understand 335 = .ok (.iinc 6 1, 3) := by decide +kernel
theorem dX11_understand_338 : decode cX11_understand 338 = .ok (.goto (-38), 3) := by decide +kernel
theorem dX11_understand_341 : decode cX11_understand 341 = .ok (.aload_n 0, 1) := by decide +kernel
theorem dX11_understand_342 : decode cX11_understand 342 = .ok (.bipush 8, 2) := by decide +kernel
theorem dX11_understand_344 : decode cX11_understand 344 = .ok (.iload 4, 2) := by decide +kernel
theorem dX11_understand_346 : decode cX11_understand 346 = .ok (.iconst 2, 1) := by decide +kernel
theorem dX11_understand_347 : decode cX11_understand 347 = .ok (.isub, 1) := by decide +kernel
theorem dX11_understand_348 : decode cX11_understand 348 = .ok (.imul, 1) := by decide +kernel
theorem dX11_understand_349 : decode cX11_understand 349 = .ok (.iload 5, 2) := by decide +kernel
theorem dX11_understand_351 : decode cX11_understand 351 = .ok (.iadd, 1) := by decide +kernel
theorem dX11_understand_352 : decode cX11_understand 352 = .ok (.putfield 101, 3) := by decide +kernel
theorem dX11_understand_355 : decode cX11_understand 355 = .ok (.return_, 1) := by decide +kernel
theorem dX11_understand_356 : decode cX11_understand 356 = .ok (.aload_n 0, 1) := by decide +kernel
theorem dX11_understand_357 : decode cX11_understand 357 = .ok (.getfield 104, 3) := by decide +kernel
theorem dX11_understand_360 : decode cX11_understand 360 = .ok (.bipush 9, 2) := by decide +kernel
theorem dX11_understand_362 : decode cX11_understand 362 = .ok (.irem, 1) := by decide +kernel
theorem dX11_understand_363 : decode cX11_understand 363 = .ok (.ifCond .ne 8, 3) := by decide +kernel
theorem dX11_understand_366 : decode cX11_understand 366 = .ok (.iload_n 1, 1) := by decide +kernel
theorem dX11_understand_367 : decode cX11_understand 367 = .ok (.iconst 3, 1) := by decide +kernel
theorem dX11_understand_368 : decode cX11_understand 368 = .ok (.if_icmp .ge 4, 3) := by decide +kernel
theorem dX11_understand_371 : decode cX11_understand 371 = .ok (.return_, 1) := by decide +kernel
theorem dX11_understand_372 : decode cX11_understand 372 = .ok (.sipush 25443, 3) := by decide +kernel
theorem dX11_understand_375 : decode cX11_understand 375 = .ok (.istore 4, 2) := by decide +kernel
theorem dX11_understand_377 : decode cX11_understand 377 = .ok (.iconst 0, 1) := by decide +kernel
theorem dX11_understand_378 : decode cX11_understand 378 = .ok (.istore 5, 2) := by decide +kernel
theorem dX11_understand_380 : decode cX11_understand 380 = .ok (.iload 5, 2) := by decide +kernel
theorem dX11_understand_382 : decode cX11_understand 382 = .ok (.iload_n 1, 1) := by decide +kernel
theorem dX11_understand_383 : decode cX11_understand 383 = .ok (.iconst 2, 1) := by decide +kernel
theorem dX11_understand_384 : decode cX11_understand 384 = .ok (.isub, 1) := by decide +kernel
theorem dX11_understand_385 : decode cX11_understand 385 = .ok (.if_icmp .ge 23, 3) := by decide +kernel
theorem dX11_understand_388 : decode cX11_understand 388 = .ok (.iload 4, 2) := by decide +kernel
theorem dX11_understand_390 : decode cX11_understand 390 = .ok (.aload_n 0, 1) := by decide +kernel
theorem dX11_understand_391 : decode cX11_understand 391 = .ok (.getfield 39, 3) := by decide +kernel
theorem dX11_understand_394 : decode cX11_understand 394 = .ok (.iload 5, 2) := by decide +kernel
theorem dX11_understand_396 : decode cX11_understand 396 = .ok (.iaload, 1) := by decide +kernel
theorem dX11_understand_397 : decode cX11_understand 397 = .ok (.invokestatic 94, 3) := by decide +kernel
theorem dX11_understand_400 : decode cX11_understand 400 = .ok (.istore 4, 2) := by decide +kernel
theorem dX11_understand_402 : decode cX11_understand 402 = .ok (.iinc 5 1, 3) := by decide +kernel
theorem dX11_understand_405 : decode cX11_understand 405 = .ok (.goto (-25), 3) := by decide +kernel
theorem dX11_understand_408 : decode cX11_understand 408 = .ok (.aload_n 0, 1) := by decide +kernel
theorem dX11_understand_409 : decode cX11_understand 409 = .ok (.getfield 39, 3) := by decide +kernel
theorem dX11_understand_412 : decode cX11_understand 412 = .ok (.iload_n 1, 1) := by decide +kernel
theorem dX11_understand_413 : decode cX11_understand 413 = .ok (.iconst 2, 1) := by decide +kernel
theorem dX11_understand_414 : decode cX11_understand 414 = .ok (.isub, 1) := by decide +kernel
theorem dX11_understand_415 : decode cX11_understand 415 = .ok (.iaload, 1) := by decide +kernel
theorem dX11_understand_416 : decode cX11_understand 416 = .ok (.iload 4, 2) := by decide +kernel
theorem dX11_understand_418 : decode cX11_understand 418 = .ok (.sipush 256, 3) := by decide +kernel
theorem dX11_understand_421 : decode cX11_understand 421 = .ok (.irem, 1) := by decide +kernel
theorem dX11_understand_422 : decode cX11_understand 422 = .ok (.if_icmp .ne 20, 3) := by decide +kernel
theorem dX11_understand_425 : decode cX11_understand 425 = .ok (.aload_n 0, 1) := by decide +kernel
theorem dX11_understand_426 : decode cX11_understand 426 = .ok (.getfield 39, 3) := by decide +kernel
theorem dX11_understand_429 : decode cX11_understand 429 = .ok (.iload_n 1, 1) := by decide +kernel
theorem dX11_understand_430 : decode cX11_understand 430 = .ok (.iconst 1, 1) := by decide +kernel
theorem dX11_understand_431 : decode cX11_understand 431 = .ok (.isub, 1) := by decide +kernel
theorem dX11_understand_432 : decode cX11_understand 432 = .ok (.iaload, 1) := by decide +kernel
theorem dX11_understand_433 : decode cX11_understand 433 = .ok (.iload 4, 2) := by decide +kernel
theorem dX11_understand_435 : decode cX11_understand 435 = .ok (.sipush 256, 3) := by decide +kernel
theorem dX11_understand_438 : decode cX11_understand 438 = .ok (.idiv, 1) := by decide +kernel
theorem dX11_understand_439 : decode cX11_understand 439 = .ok (.if_icmp .eq 4, 3) := by decide +kernel
theorem dX11_understand_442 : decode cX11_understand 442 = .ok (.return_, 1) := by decide +kernel
theorem dX11_understand_443 : decode cX11_understand 443 = .ok (.iload_n 3, 1) := by decide +kernel
theorem dX11_understand_444 : decode cX11_understand 444 = .ok (.ifCond .eq 77, 3) := by decide +kernel
theorem dX11_understand_447 : decode cX11_understand 447 = .ok (.iload_n 1, 1) := by decide +kernel
theorem dX11_understand_448 : decode cX11_understand 448 = .ok (.bipush 9, 2) := by decide +kernel
theorem dX11_understand_450 : decode cX11_understand 450 = .ok (.if_icmp .ne 71, 3) := by decide +kernel
theorem dX11_understand_453 : decode cX11_understand 453 = .ok (.aload_n 0, 1) := by decide +kernel
theorem dX11_understand_454 : decode cX11_understand 454 = .ok (.iconst 4, 1) := by decide +kernel
theorem dX11_understand_455 : decode cX11_understand 455 = .ok (.putfield 98, 3) := by decide +kernel
theorem dX11_understand_458 : decode cX11_understand 458 = .ok (.aload_n 0, 1) := by decide +kernel
theorem dX11_understand_459 : decode cX11_understand 459 = .ok (.iload_n 2, 1) := by decide +kernel
theorem dX11_understand_460 : decode cX11_understand 460 = .ok (.sipush 145, 3) := by decide +kernel
theorem dX11_understand_463 : decode cX11_understand 463 = .ok (.isub, 1) := by decide +kernel
theorem dX11_understand_464 : decode cX11_understand 464 = .ok (.iconst 2, 1) := by decide +kernel
theorem dX11_understand_465 : decode cX11_understand 465 = .ok (.idiv, 1) := by decide +kernel
theorem dX11_understand_466 : decode cX11_understand 466 = .ok (.putfield 107, 3) := by decide +kernel
theorem dX11_understand_469 : decode cX11_understand 469 = .ok (.iconst 0, 1) := by decide +kernel
theorem dX11_understand_470 : decode cX11_understand 470 = .ok (.istore 5, 2) := by decide +kernel
theorem dX11_understand_472 : decode cX11_understand 472 = .ok (.iload 5, 2) := by decide +kernel
theorem dX11_understand_474 : decode cX11_understand 474 = .ok (.bipush 40, 2) := by decide +kernel
theorem dX11_understand_476 : decode cX11_understand 476 = .ok (.if_icmp .ge 36, 3) := by decide +kernel
theorem dX11_understand_479 : decode cX11_understand 479 = .ok (.aload_n 0, 1) := by decide +kernel
theorem dX11_understand_480 : decode cX11_understand 480 = .ok (.getfield 42, 3) := by decide +kernel
theorem dX11_understand_483 : decode cX11_understand 483 = .ok (.iload 5, 2) := by decide +kernel
theorem dX11_understand_485 : decode cX11_understand 485 = .ok (.aload_n 0, 1) := by decide +kernel
theorem dX11_understand_486 : decode cX11_understand 486 = .ok (.getfield 39, 3) := by decide +kernel
theorem dX11_understand_489 : decode cX11_understand 489 = .ok (.iconst 2, 1) := by decide +kernel
theorem dX11_understand_490 : decode cX11_understand 490 = .ok (.iload 5, 2) := by decide +kernel
theorem dX11_understand_492 : decode cX11_understand 492 = .ok (.bipush 8, 2) := by decide +kernel
theorem dX11_understand_494 : decode cX11_understand 494 = .ok (.idiv, 1) := by decide +kernel
theorem dX11_understand_495 : decode cX11_understand 495 = .ok (.iadd, 1) := by decide +kernel
theorem dX11_understand_496 : decode cX11_understand 496 = .ok (.iaload, 1) := by decide +kernel
theorem dX11_understand_497 : decode cX11_understand 497 = .ok (.iload 5, 2) := by decide +kernel
theorem dX11_understand_499 : decode cX11_understand 499 = .ok (.bipush 8, 2) := by decide +kernel
theorem dX11_understand_501 : decode cX11_understand 501 = .ok (.irem, 1) := by decide +kernel
theorem dX11_understand_502 : decode cX11_understand 502 = .ok (.ishr, 1) := by decide +kernel
theorem dX11_understand_503 : decode cX11_understand 503 = .ok (.iconst 1, 1) := by decide +kernel
theorem dX11_understand_504 : decode cX11_understand 504 = .ok (.iand, 1) := by decide +kernel
theorem dX11_understand_505 : decode cX11_understand 505 = .ok (.iastore, 1) := by decide +kernel
theorem dX11_understand_506 : decode cX11_understand 506 = .ok (.iinc 5 1, 3) := by decide +kernel
theorem dX11_understand_509 : decode cX11_understand 509 = .ok (.goto (-37), 3) := by decide +kernel
theorem dX11_understand_512 : decode cX11_understand 512 = .ok (.aload_n 0, 1) := by decide +kernel
theorem dX11_understand_513 : decode cX11_understand 513 = .ok (.bipush 40, 2) := by decide +kernel
theorem dX11_understand_515 : decode cX11_understand 515 = .ok (.putfield 101, 3) := by decide +kernel
theorem dX11_understand_518 : decode cX11_understand 518 = .ok (.goto 70, 3) := by decide +kernel
theorem dX11_understand_521 : decode cX11_understand 521 = .ok (.iload_n 1, 1) := by decide +kernel
theorem dX11_understand_522 : decode cX11_understand 522 = .ok (.iconst 4, 1) := by decide +kernel
theorem dX11_understand_523 : decode cX11_understand 523 = .ok (.if_icmp .ne 26, 3) := by decide +kernel
theorem dX11_understand_526 : decode cX11_understand 526 = .ok (.iload_n 2, 1) := by decide +kernel
theorem dX11_understand_527 : decode cX11_understand 527 = .ok (.bipush 80, 2) := by decide +kernel
theorem dX11_understand_529 : decode cX11_understand 529 = .ok (.if_icmp .ne 20, 3) := by decide +kernel
theorem dX11_understand_532 : decode cX11_understand 532 = .ok (.aload_n 0, 1) := by decide +kernel
theorem dX11_understand_533 : decode cX11_understand 533 = .ok (.getfield 39, 3) := by decide +kernel
theorem dX11_understand_536 : decode cX11_understand 536 = .ok (.iconst 1, 1) := by decide +kernel
theorem dX11_understand_537 : decode cX11_understand 537 = .ok (.iaload, 1) := by decide +kernel
theorem dX11_understand_538 : decode cX11_understand 538 = .ok (.ifCond .ne 11, 3) := by decide +kernel
theorem dX11_understand_541 : decode cX11_understand 541 = .ok (.aload_n 0, 1) := by decide +kernel
theorem dX11_understand_542 : decode cX11_understand 542 = .ok (.iconst 5, 1) := by decide +kernel
theorem dX11_understand_543 : decode cX11_understand 543 = .ok (.putfield 98, 3) := by decide +kernel
theorem dX11_understand_546 : decode cX11_understand 546 = .ok (.goto 42, 3) := by decide +kernel
theorem dX11_understand_549 : decode cX11_understand 549 = .ok (.iload_n 1, 1) := by decide +kernel
theorem dX11_understand_550 : decode cX11_understand 550 = .ok (.iconst 4, 1) := by decide +kernel
theorem dX11_understand_551 : decode cX11_understand 551 = .ok (.if_icmp .ne 19, 3) := by decide +kernel
theorem dX11_understand_554 : decode cX11_understand 554 = .ok (.iload_n 2, 1) := by decide +kernel
theorem dX11_understand_555 : decode cX11_understand 555 = .ok (.sipush 224, 3) := by decide +kernel
theorem dX11_understand_558 : decode cX11_understand 558 = .ok (.if_icmp .ne 12, 3) := by decide +kernel
theorem dX11_understand_561 : decode cX11_understand 561 = .ok (.aload_n 0, 1) := by decide +kernel
theorem dX11_understand_562 : decode cX11_understand 562 = .ok (.bipush 6, 2) := by decide +kernel
theorem dX11_understand_564 : decode cX11_understand 564 = .ok (.putfield 98, 3) := by decide +kernel
theorem dX11_understand_567 : decode cX11_understand 567 = .ok (.goto 21, 3) := by decide +kernel
theorem dX11_understand_570 : decode cX11_understand 570 = .ok (.iload_n 1, 1) := by decide +kernel
theorem dX11_understand_571 : decode cX11_understand 571 = .ok (.iconst 3, 1) := by decide +kernel
theorem dX11_understand_572 : decode cX11_understand 572 = .ok (.if_icmp .ne 16, 3) := by decide +kernel
theorem dX11_understand_575 : decode cX11_understand 575 = .ok (.iload_n 2, 1) := by decide +kernel
theorem dX11_understand_576 : decode cX11_understand 576 = .ok (.sipush 194, 3) := by decide +kernel
theorem dX11_understand_579 : decode cX11_understand 579 = .ok (.if_icmp .ne 9, 3) := by decide +kernel
theorem dX11_understand_582 : decode cX11_understand 582 = .ok (.aload_n 0, 1) := by decide +kernel
theorem dX11_understand_583 : decode cX11_understand 583 = .ok (.bipush 7, 2) := by decide +kernel
theorem dX11_understand_585 : decode cX11_understand 585 = .ok (.putfield 98, 3) := by decide +kernel
theorem dX11_understand_588 : decode cX11_understand 588 = .ok (.return_, 1) := by decide +kernel
theorem dX11_say_0 : decode cX11_say 0 = .ok (.iconst 0, 1) := by decide +kernel
theorem dX11_say_1 : decode cX11_say 1 = .ok (.istore_n 2, 1) := by decide +kernel
theorem dX11_say_2 : decode cX11_say 2 = .ok (.iload_n 2, 1) := by decide +kernel
theorem dX11_say_3 : decode cX11_say 3 = .ok (.bipush 8, 2) := by decide +kernel
theorem dX11_say_5 : decode cX11_say 5 = .ok (.if_icmp .ge 25, 3) := by decide +kernel
theorem dX11_say_8 : decode cX11_say 8 = .ok (.aload_n 0, 1) := by decide +kernel
theorem dX11_say_9 : decode cX11_say 9 = .ok (.getfield 45, 3) := by decide +kernel
theorem dX11_say_12 : decode cX11_say 12 = .ok (.aload_n 0, 1) := by decide +kernel
theorem dX11_say_13 : decode cX11_say 13 = .ok (.getfield 110, 3) := by decide +kernel
theorem dX11_say_16 : decode cX11_say 16 = .ok (.iload_n 2, 1) := by decide +kernel
theorem dX11_say_17 : decode cX11_say 17 = .ok (.iadd, 1) := by decide +kernel
theorem dX11_say_18 : decode cX11_say 18 = .ok (.iload_n 1, 1) := by decide +kernel
theorem dX11_say_19 : decode cX11_say 19 = .ok (.iload_n 2, 1) := by decide +kernel
theorem dX11_say_20 : decode cX11_say 20 = .ok (.ishr, 1) := by decide +kernel
theorem dX11_say_21 : decode cX11_say 21 = .ok (.iconst 1, 1) := by decide +kernel
theorem dX11_say_22 : decode cX11_say 22 = .ok (.iand, 1) := by decide +kernel
theorem dX11_say_23 : decode cX11_say 23 = .ok (.iastore, 1) := by decide +kernel
theorem dX11_say_24 : decode cX11_say 24 = .ok (.iinc 2 1, 3) := by decide +kernel
theorem dX11_say_27 : decode cX11_say 27 = .ok (.goto (-25), 3) := by decide +kernel
theorem dX11_say_30 : decode cX11_say 30 = .ok (.aload_n 0, 1) := by decide +kernel
theorem dX11_say_31 : decode cX11_say 31 = .ok (.getfield 45, 3) := by decide +kernel
theorem dX11_say_34 : decode cX11_say 34 = .ok (.aload_n 0, 1) := by decide +kernel
theorem dX11_say_35 : decode cX11_say 35 = .ok (.getfield 110, 3) := by decide +kernel
theorem dX11_say_38 : decode cX11_say 38 = .ok (.bipush 8, 2) := by decide +kernel
theorem dX11_say_40 : decode cX11_say 40 = .ok (.iadd, 1) := by decide +kernel
theorem dX11_say_41 : decode cX11_say 41 = .ok (.iload_n 1, 1) := by decide +kernel
theorem dX11_say_42 : decode cX11_say 42 = .ok (.invokestatic 82, 3) := by decide +kernel
theorem dX11_say_45 : decode cX11_say 45 = .ok (.iastore, 1) := by decide +kernel
theorem dX11_say_46 : decode cX11_say 46 = .ok (.aload_n 0, 1) := by decide +kernel
theorem dX11_say_47 : decode cX11_say 47 = .ok (.dup, 1) := by decide +kernel
theorem dX11_say_48 : decode cX11_say 48 = .ok (.getfield 110, 3) := by decide +kernel
theorem dX11_say_51 : decode cX11_say 51 = .ok (.bipush 9, 2) := by decide +kernel
theorem dX11_say_53 : decode cX11_say 53 = .ok (.iadd, 1) := by decide +kernel
theorem dX11_say_54 : decode cX11_say 54 = .ok (.putfield 110, 3) := by decide +kernel
theorem dX11_say_57 : decode cX11_say 57 = .ok (.return_, 1) := by decide +kernel
theorem dX11_sayChecked_0 : decode cX11_sayChecked 0 = .ok (.sipush 25443, 3) := by decide +kernel
theorem dX11_sayChecked_3 : decode cX11_sayChecked 3 = .ok (.istore_n 2, 1) := by decide +kernel
theorem dX11_sayChecked_4 : decode cX11_sayChecked 4 = .ok (.iload_n 1, 1) := by decide +kernel
theorem dX11_sayChecked_5 : decode cX11_sayChecked 5 = .ok (.istore_n 3, 1) := by decide +kernel
theorem dX11_sayChecked_6 : decode cX11_sayChecked 6 = .ok (.iload_n 3, 1) := by decide +kernel
theorem dX11_sayChecked_7 : decode cX11_sayChecked 7 = .ok (.aload_n 0, 1) := by decide +kernel
theorem dX11_sayChecked_8 : decode cX11_sayChecked 8 = .ok (.getfield 110, 3) := by decide +kernel
theorem dX11_sayChecked_11 : decode cX11_sayChecked 11 = .ok (.if_icmp .ge 22, 3) := by decide +kernel
theorem dX11_sayChecked_14 : decode cX11_sayChecked 14 = .ok (.iload_n 2, 1) := by decide +kernel
theorem dX11_sayChecked_15 : decode cX11_sayChecked 15 = .ok (.aload_n 0, 1) := by decide +kernel
theorem dX11_sayChecked_16 : decode cX11_sayChecked 16 = .ok (.getfield 45, 3) := by decide +kernel
theorem dX11_sayChecked_19 : decode cX11_sayChecked 19 = .ok (.iload_n 3, 1) := by decide +kernel
theorem dX11_sayChecked_20 : decode cX11_sayChecked 20 = .ok (.invokestatic 90, 3) := by decide +kernel
theorem dX11_sayChecked_23 : decode cX11_sayChecked 23 = .ok (.invokestatic 94, 3) := by decide +kernel
theorem dX11_sayChecked_26 : decode cX11_sayChecked 26 = .ok (.istore_n 2, 1) := by decide +kernel
theorem dX11_sayChecked_27 : decode cX11_sayChecked 27 = .ok (.iinc 3 9, 3) := by decide +kernel
theorem dX11_sayChecked_30 : decode cX11_sayChecked 30 = .ok (.goto (-24), 3) := by decide +kernel
theorem dX11_sayChecked_33 : decode cX11_sayChecked 33 = .ok (.aload_n 0, 1) := by decide +kernel
theorem dX11_sayChecked_34 : decode cX11_sayChecked 34 = .ok (.iload_n 2, 1) := by decide +kernel
theorem dX11_sayChecked_35 : decode cX11_sayChecked 35 = .ok (.sipush 256, 3) := by decide +kernel
theorem dX11_sayChecked_38 : decode cX11_sayChecked 38 = .ok (.irem, 1) := by decide +kernel
theorem dX11_sayChecked_39 : decode cX11_sayChecked 39 = .ok (.invokevirtual 113, 3) := by decide +kernel
theorem dX11_sayChecked_42 : decode cX11_sayChecked 42 = .ok (.aload_n 0, 1) := by decide +kernel
theorem dX11_sayChecked_43 : decode cX11_sayChecked 43 = .ok (.iload_n 2, 1) := by decide +kernel
theorem dX11_sayChecked_44 : decode cX11_sayChecked 44 = .ok (.sipush 256, 3) := by decide +kernel
theorem dX11_sayChecked_47 : decode cX11_sayChecked 47 = .ok (.idiv, 1) := by decide +kernel
theorem dX11_sayChecked_48 : decode cX11_sayChecked 48 = .ok (.invokevirtual 113, 3) := by decide +kernel
theorem dX11_sayChecked_51 : decode cX11_sayChecked 51 = .ok (.return_, 1) := by decide +kernel
theorem dX11_shows_0 : decode cX11_shows 0 = .ok (.bipush 120, 2) := by decide +kernel
theorem dX11_shows_2 : decode cX11_shows 2 = .ok (.iload_n 1, 1) := by decide +kernel
theorem dX11_shows_3 : decode cX11_shows 3 = .ok (.imul, 1) := by decide +kernel
theorem dX11_shows_4 : decode cX11_shows 4 = .ok (.bipush 40, 2) := by decide +kernel
theorem dX11_shows_6 : decode cX11_shows 6 = .ok (.aload_n 0, 1) := by decide +kernel
theorem dX11_shows_7 : decode cX11_shows 7 = .ok (.getfield 23, 3) := by decide +kernel
theorem dX11_shows_10 : decode cX11_shows 10 = .ok (.iload_n 1, 1) := by decide +kernel
theorem dX11_shows_11 : decode cX11_shows 11 = .ok (.iaload, 1) := by decide +kernel
theorem dX11_shows_12 : decode cX11_shows 12 = .ok (.iconst 1, 1) := by decide +kernel
theorem dX11_shows_13 : decode cX11_shows 13 = .ok (.isub, 1) := by decide +kernel
theorem dX11_shows_14 : decode cX11_shows 14 = .ok (.imul, 1) := by decide +kernel
theorem dX11_shows_15 : decode cX11_shows 15 = .ok (.iadd, 1) := by decide +kernel
theorem dX11_shows_16 : decode cX11_shows 16 = .ok (.istore_n 2, 1) := by decide +kernel
theorem dX11_shows_17 : decode cX11_shows 17 = .ok (.iconst 0, 1) := by decide +kernel
theorem dX11_shows_18 : decode cX11_shows 18 = .ok (.istore_n 3, 1) := by decide +kernel
theorem dX11_shows_19 : decode cX11_shows 19 = .ok (.iload_n 3, 1) := by decide +kernel
theorem dX11_shows_20 : decode cX11_shows 20 = .ok (.aload_n 0, 1) := by decide +kernel
theorem dX11_shows_21 : decode cX11_shows 21 = .ok (.getfield 101, 3) := by decide +kernel
theorem dX11_shows_24 : decode cX11_shows 24 = .ok (.if_icmp .ge 28, 3) := by decide +kernel
theorem dX11_shows_27 : decode cX11_shows 27 = .ok (.aload_n 0, 1) := by decide +kernel
theorem dX11_shows_28 : decode cX11_shows 28 = .ok (.getfield 26, 3) := by decide +kernel
theorem dX11_shows_31 : decode cX11_shows 31 = .ok (.iload_n 2, 1) := by decide +kernel
theorem dX11_shows_32 : decode cX11_shows 32 = .ok (.iload_n 3, 1) := by decide +kernel
theorem dX11_shows_33 : decode cX11_shows 33 = .ok (.iadd, 1) := by decide +kernel
theorem dX11_shows_34 : decode cX11_shows 34 = .ok (.iaload, 1) := by decide +kernel
theorem dX11_shows_35 : decode cX11_shows 35 = .ok (.aload_n 0, 1) := by decide +kernel
theorem dX11_shows_36 : decode cX11_shows 36 = .ok (.getfield 42, 3) := by decide +kernel
theorem dX11_shows_39 : decode cX11_shows 39 = .ok (.iload_n 3, 1) := by decide +kernel
theorem dX11_shows_40 : decode cX11_shows 40 = .ok (.iaload, 1) := by decide +kernel
theorem dX11_shows_41 : decode cX11_shows 41 = .ok (.if_icmp .eq 5, 3) := by decide +kernel
theorem dX11_shows_44 : decode cX11_shows 44 = .ok (.iconst 0, 1) := by decide +kernel
theorem dX11_shows_45 : decode cX11_shows 45 = .ok (.ireturn, 1) := by decide +kernel
theorem dX11_shows_46 : decode cX11_shows 46 = .ok (.iinc 3 1, 3) := by decide +kernel
theorem dX11_shows_49 : decode cX11_shows 49 = .ok (.goto (-30), 3) := by decide +kernel
theorem dX11_shows_52 : decode cX11_shows 52 = .ok (.iconst 1, 1) := by decide +kernel
theorem dX11_shows_53 : decode cX11_shows 53 = .ok (.ireturn, 1) := by decide +kernel
theorem dX11_sayRest_0 : decode cX11_sayRest 0 = .ok (.bipush 120, 2) := by decide +kernel
theorem dX11_sayRest_2 : decode cX11_sayRest 2 = .ok (.iload_n 1, 1) := by decide +kernel
theorem dX11_sayRest_3 : decode cX11_sayRest 3 = .ok (.imul, 1) := by decide +kernel
theorem dX11_sayRest_4 : decode cX11_sayRest 4 = .ok (.bipush 40, 2) := by decide +kernel
theorem dX11_sayRest_6 : decode cX11_sayRest 6 = .ok (.aload_n 0, 1) := by decide +kernel
theorem dX11_sayRest_7 : decode cX11_sayRest 7 = .ok (.getfield 23, 3) := by decide +kernel
theorem dX11_sayRest_10 : decode cX11_sayRest 10 = .ok (.iload_n 1, 1) := by decide +kernel
theorem dX11_sayRest_11 : decode cX11_sayRest 11 = .ok (.iaload, 1) := by decide +kernel
theorem dX11_sayRest_12 : decode cX11_sayRest 12 = .ok (.iconst 1, 1) := by decide +kernel
theorem dX11_sayRest_13 : decode cX11_sayRest 13 = .ok (.isub, 1) := by decide +kernel
theorem dX11_sayRest_14 : decode cX11_sayRest 14 = .ok (.imul, 1) := by decide +kernel
theorem dX11_sayRest_15 : decode cX11_sayRest 15 = .ok (.iadd, 1) := by decide +kernel
theorem dX11_sayRest_16 : decode cX11_sayRest 16 = .ok (.istore_n 2, 1) := by decide +kernel
theorem dX11_sayRest_17 : decode cX11_sayRest 17 = .ok (.aload_n 0, 1) := by decide +kernel
theorem dX11_sayRest_18 : decode cX11_sayRest 18 = .ok (.getfield 101, 3) := by decide +kernel
theorem dX11_sayRest_21 : decode cX11_sayRest 21 = .ok (.istore_n 3, 1) := by decide +kernel
theorem dX11_sayRest_22 : decode cX11_sayRest 22 = .ok (.iload_n 3, 1) := by decide +kernel
theorem dX11_sayRest_23 : decode cX11_sayRest 23 = .ok (.bipush 40, 2) := by decide +kernel
theorem dX11_sayRest_25 : decode cX11_sayRest 25 = .ok (.if_icmp .ge 113, 3) := by decide +kernel
theorem dX11_sayRest_28 : decode cX11_sayRest 28 = .ok (.aload_n 0, 1) := by decide +kernel
theorem dX11_sayRest_29 : decode cX11_sayRest 29 = .ok (.getfield 45, 3) := by decide +kernel
theorem dX11_sayRest_32 : decode cX11_sayRest 32 = .ok (.aload_n 0, 1) := by decide +kernel
theorem dX11_sayRest_33 : decode cX11_sayRest 33 = .ok (.getfield 110, 3) := by decide +kernel
theorem dX11_sayRest_36 : decode cX11_sayRest 36 = .ok (.aload_n 0, 1) := by decide +kernel
theorem dX11_sayRest_37 : decode cX11_sayRest 37 = .ok (.getfield 26, 3) := by decide +kernel
theorem dX11_sayRest_40 : decode cX11_sayRest 40 = .ok (.iload_n 2, 1) := by decide +kernel
theorem dX11_sayRest_41 : decode cX11_sayRest 41 = .ok (.iload_n 3, 1) := by decide +kernel
theorem dX11_sayRest_42 : decode cX11_sayRest 42 = .ok (.iadd, 1) := by decide +kernel
theorem dX11_sayRest_43 : decode cX11_sayRest 43 = .ok (.iaload, 1) := by decide +kernel
theorem dX11_sayRest_44 : decode cX11_sayRest 44 = .ok (.iastore, 1) := by decide +kernel
theorem dX11_sayRest_45 : decode cX11_sayRest 45 = .ok (.aload_n 0, 1) := by decide +kernel
theorem dX11_sayRest_46 : decode cX11_sayRest 46 = .ok (.dup, 1) := by decide +kernel
theorem dX11_sayRest_47 : decode cX11_sayRest 47 = .ok (.getfield 110, 3) := by decide +kernel
theorem dX11_sayRest_50 : decode cX11_sayRest 50 = .ok (.iconst 1, 1) := by decide +kernel
theorem dX11_sayRest_51 : decode cX11_sayRest 51 = .ok (.iadd, 1) := by decide +kernel
theorem dX11_sayRest_52 : decode cX11_sayRest 52 = .ok (.putfield 110, 3) := by decide +kernel
theorem dX11_sayRest_55 : decode cX11_sayRest 55 = .ok (.iload_n 3, 1) := by decide +kernel
theorem dX11_sayRest_56 : decode cX11_sayRest 56 = .ok (.bipush 8, 2) := by decide +kernel
theorem dX11_sayRest_58 : decode cX11_sayRest 58 = .ok (.irem, 1) := by decide +kernel
theorem dX11_sayRest_59 : decode cX11_sayRest 59 = .ok (.bipush 7, 2) := by decide +kernel
theorem dX11_sayRest_61 : decode cX11_sayRest 61 = .ok (.if_icmp .ge 6, 3) := by decide +kernel
theorem dX11_sayRest_64 : decode cX11_sayRest 64 = .ok (.goto 68, 3) := by decide +kernel
theorem dX11_sayRest_67 : decode cX11_sayRest 67 = .ok (.iconst 0, 1) := by decide +kernel
theorem dX11_sayRest_68 : decode cX11_sayRest 68 = .ok (.istore 4, 2) := by decide +kernel
theorem dX11_sayRest_70 : decode cX11_sayRest 70 = .ok (.iconst 0, 1) := by decide +kernel
theorem dX11_sayRest_71 : decode cX11_sayRest 71 = .ok (.istore 5, 2) := by decide +kernel
theorem dX11_sayRest_73 : decode cX11_sayRest 73 = .ok (.iload 5, 2) := by decide +kernel
theorem dX11_sayRest_75 : decode cX11_sayRest 75 = .ok (.bipush 8, 2) := by decide +kernel
theorem dX11_sayRest_77 : decode cX11_sayRest 77 = .ok (.if_icmp .ge 31, 3) := by decide +kernel
theorem dX11_sayRest_80 : decode cX11_sayRest 80 = .ok (.iload 4, 2) := by decide +kernel
theorem dX11_sayRest_82 : decode cX11_sayRest 82 = .ok (.aload_n 0, 1) := by decide +kernel
theorem dX11_sayRest_83 : decode cX11_sayRest 83 = .ok (.getfield 26, 3) := by decide +kernel
theorem dX11_sayRest_86 : decode cX11_sayRest 86 = .ok (.iload_n 2, 1) := by decide +kernel
theorem dX11_sayRest_87 : decode cX11_sayRest 87 = .ok (.iload_n 3, 1) := by decide +kernel
theorem dX11_sayRest_88 : decode cX11_sayRest 88 = .ok (.iadd, 1) := by decide +kernel
theorem dX11_sayRest_89 : decode cX11_sayRest 89 = .ok (.bipush 7, 2) := by decide +kernel
theorem dX11_sayRest_91 : decode cX11_sayRest 91 = .ok (.isub, 1) := by decide +kernel
theorem dX11_sayRest_92 : decode cX11_sayRest 92 = .ok (.iload 5, 2) := by decide +kernel
theorem dX11_sayRest_94 : decode cX11_sayRest 94 = .ok (.iadd, 1) := by decide +kernel
theorem dX11_sayRest_95 : decode cX11_sayRest 95 = .ok (.iaload, 1) := by decide +kernel
theorem dX11_sayRest_96 : decode cX11_sayRest 96 = .ok (.iload 5, 2) := by decide +kernel
theorem dX11_sayRest_98 : decode cX11_sayRest 98 = .ok (.ishl, 1) := by decide +kernel
theorem dX11_sayRest_99 : decode cX11_sayRest 99 = .ok (.ior, 1) := by decide +kernel
theorem dX11_sayRest_100 : decode cX11_sayRest 100 = .ok (.istore 4, 2) := by decide +kernel
theorem dX11_sayRest_102 : decode cX11_sayRest 102 = .ok (.iinc 5 1, 3) := by decide +kernel
theorem dX11_sayRest_105 : decode cX11_sayRest 105 = .ok (.goto (-32), 3) := by decide +kernel
theorem dX11_sayRest_108 : decode cX11_sayRest 108 = .ok (.aload_n 0, 1) := by decide +kernel
theorem dX11_sayRest_109 : decode cX11_sayRest 109 = .ok (.getfield 45, 3) := by decide +kernel
theorem dX11_sayRest_112 : decode cX11_sayRest 112 = .ok (.aload_n 0, 1) := by decide +kernel
theorem dX11_sayRest_113 : decode cX11_sayRest 113 = .ok (.getfield 110, 3) := by decide +kernel
theorem dX11_sayRest_116 : decode cX11_sayRest 116 = .ok (.iload 4, 2) := by decide +kernel
theorem dX11_sayRest_118 : decode cX11_sayRest 118 = .ok (.invokestatic 82, 3) := by decide +kernel
theorem dX11_sayRest_121 : decode cX11_sayRest 121 = .ok (.iastore, 1) := by decide +kernel
theorem dX11_sayRest_122 : decode cX11_sayRest 122 = .ok (.aload_n 0, 1) := by decide +kernel
theorem dX11_sayRest_123 : decode cX11_sayRest 123 = .ok (.dup, 1) := by decide +kernel
theorem dX11_sayRest_124 : decode cX11_sayRest 124 = .ok (.getfield 110, 3) := by decide +kernel
theorem dX11_sayRest_127 : decode cX11_sayRest 127 = .ok (.iconst 1, 1) := by decide +kernel
theorem dX11_sayRest_128 : decode cX11_sayRest 128 = .ok (.iadd, 1) := by decide +kernel
theorem dX11_sayRest_129 : decode cX11_sayRest 129 = .ok (.putfield 110, 3) := by decide +kernel
theorem dX11_sayRest_132 : decode cX11_sayRest 132 = .ok (.iinc 3 1, 3) := by decide +kernel
theorem dX11_sayRest_135 : decode cX11_sayRest 135 = .ok (.goto (-113), 3) := by decide +kernel
theorem dX11_sayRest_138 : decode cX11_sayRest 138 = .ok (.return_, 1) := by decide +kernel
theorem dX11_back_0 : decode cX11_back 0 = .ok (.aload_n 0, 1) := by decide +kernel
theorem dX11_back_1 : decode cX11_back 1 = .ok (.getfield 20, 3) := by decide +kernel
theorem dX11_back_4 : decode cX11_back 4 = .ok (.iload_n 1, 1) := by decide +kernel
theorem dX11_back_5 : decode cX11_back 5 = .ok (.aload_n 0, 1) := by decide +kernel
theorem dX11_back_6 : decode cX11_back 6 = .ok (.getfield 20, 3) := by decide +kernel
theorem dX11_back_9 : decode cX11_back 9 = .ok (.iload_n 1, 1) := by decide +kernel
theorem dX11_back_10 : decode cX11_back 10 = .ok (.iaload, 1) := by decide +kernel
theorem dX11_back_11 : decode cX11_back 11 = .ok (.iconst 4, 1) := by decide +kernel
theorem dX11_back_12 : decode cX11_back 12 = .ok (.if_icmp .ge 7, 3) := by decide +kernel
theorem dX11_back_15 : decode cX11_back 15 = .ok (.iconst 1, 1) := by decide +kernel
theorem dX11_back_16 : decode cX11_back 16 = .ok (.goto 4, 3) := by decide +kernel
theorem dX11_back_19 : decode cX11_back 19 = .ok (.iconst 4, 1) := by decide +kernel
theorem dX11_back_20 : decode cX11_back 20 = .ok (.iastore, 1) := by decide +kernel
theorem dX11_back_21 : decode cX11_back 21 = .ok (.return_, 1) := by decide +kernel
theorem dX11_begin_0 : decode cX11_begin 0 = .ok (.aload_n 0, 1) := by decide +kernel
theorem dX11_begin_1 : decode cX11_begin 1 = .ok (.getfield 20, 3) := by decide +kernel
theorem dX11_begin_4 : decode cX11_begin 4 = .ok (.iload_n 1, 1) := by decide +kernel
theorem dX11_begin_5 : decode cX11_begin 5 = .ok (.iload_n 2, 1) := by decide +kernel
theorem dX11_begin_6 : decode cX11_begin 6 = .ok (.iastore, 1) := by decide +kernel
theorem dX11_begin_7 : decode cX11_begin 7 = .ok (.aload_n 0, 1) := by decide +kernel
theorem dX11_begin_8 : decode cX11_begin 8 = .ok (.getfield 23, 3) := by decide +kernel
theorem dX11_begin_11 : decode cX11_begin 11 = .ok (.iload_n 1, 1) := by decide +kernel
theorem dX11_begin_12 : decode cX11_begin 12 = .ok (.iconst 1, 1) := by decide +kernel
theorem dX11_begin_13 : decode cX11_begin 13 = .ok (.iastore, 1) := by decide +kernel
theorem dX11_begin_14 : decode cX11_begin 14 = .ok (.aload_n 0, 1) := by decide +kernel
theorem dX11_begin_15 : decode cX11_begin 15 = .ok (.aload_n 0, 1) := by decide +kernel
theorem dX11_begin_16 : decode cX11_begin 16 = .ok (.getfield 7, 3) := by decide +kernel
theorem dX11_begin_19 : decode cX11_begin 19 = .ok (.iload_n 1, 1) := by decide +kernel
theorem dX11_begin_20 : decode cX11_begin 20 = .ok (.iaload, 1) := by decide +kernel
theorem dX11_begin_21 : decode cX11_begin 21 = .ok (.iconst 4, 1) := by decide +kernel
theorem dX11_begin_22 : decode cX11_begin 22 = .ok (.if_icmp .ne 7, 3) := by decide +kernel
theorem dX11_begin_25 : decode cX11_begin 25 = .ok (.iconst 4, 1) := by decide +kernel
theorem dX11_begin_26 : decode cX11_begin 26 = .ok (.goto 22, 3) := by decide +kernel
theorem dX11_begin_29 : decode cX11_begin 29 = .ok (.aload_n 0, 1) := by decide +kernel
theorem dX11_begin_30 : decode cX11_begin 30 = .ok (.getfield 7, 3) := by decide +kernel
theorem dX11_begin_33 : decode cX11_begin 33 = .ok (.iload_n 1, 1) := by decide +kernel
theorem dX11_begin_34 : decode cX11_begin 34 = .ok (.iaload, 1) := by decide +kernel
theorem dX11_begin_35 : decode cX11_begin 35 = .ok (.bipush 7, 2) := by decide +kernel
theorem dX11_begin_37 : decode cX11_begin 37 = .ok (.if_icmp .ne 8, 3) := by decide +kernel
theorem dX11_begin_40 : decode cX11_begin 40 = .ok (.bipush 68, 2) := by decide +kernel
theorem dX11_begin_42 : decode cX11_begin 42 = .ok (.goto 6, 3) := by decide +kernel
theorem dX11_begin_45 : decode cX11_begin 45 = .ok (.sipush 132, 3) := by decide +kernel
theorem dX11_begin_48 : decode cX11_begin 48 = .ok (.invokevirtual 113, 3) := by decide +kernel
theorem dX11_begin_51 : decode cX11_begin 51 = .ok (.aload_n 0, 1) := by decide +kernel
theorem dX11_begin_52 : decode cX11_begin 52 = .ok (.iconst 0, 1) := by decide +kernel
theorem dX11_begin_53 : decode cX11_begin 53 = .ok (.invokevirtual 113, 3) := by decide +kernel
theorem dX11_begin_56 : decode cX11_begin 56 = .ok (.return_, 1) := by decide +kernel
theorem dX11_hear_0 : decode cX11_hear 0 = .ok (.aload_n 0, 1) := by decide +kernel
theorem dX11_hear_1 : decode cX11_hear 1 = .ok (.getfield 20, 3) := by decide +kernel
theorem dX11_hear_4 : decode cX11_hear 4 = .ok (.iload_n 1, 1) := by decide +kernel
theorem dX11_hear_5 : decode cX11_hear 5 = .ok (.iaload, 1) := by decide +kernel
theorem dX11_hear_6 : decode cX11_hear 6 = .ok (.istore_n 2, 1) := by decide +kernel
theorem dX11_hear_7 : decode cX11_hear 7 = .ok (.iload_n 2, 1) := by decide +kernel
theorem dX11_hear_8 : decode cX11_hear 8 = .ok (.iconst 1, 1) := by decide +kernel
theorem dX11_hear_9 : decode cX11_hear 9 = .ok (.if_icmp .ne 28, 3) := by decide +kernel
theorem dX11_hear_12 : decode cX11_hear 12 = .ok (.aload_n 0, 1) := by decide +kernel
theorem dX11_hear_13 : decode cX11_hear 13 = .ok (.getfield 98, 3) := by decide +kernel
theorem dX11_hear_16 : decode cX11_hear 16 = .ok (.iconst 1, 1) := by decide +kernel
theorem dX11_hear_17 : decode cX11_hear 17 = .ok (.if_icmp .eq 11, 3) := by decide +kernel
theorem dX11_hear_20 : decode cX11_hear 20 = .ok (.aload_n 0, 1) := by decide +kernel
theorem dX11_hear_21 : decode cX11_hear 21 = .ok (.getfield 98, 3) := by decide +kernel
theorem dX11_hear_24 : decode cX11_hear 24 = .ok (.iconst 2, 1) := by decide +kernel
theorem dX11_hear_25 : decode cX11_hear 25 = .ok (.if_icmp .ne 323, 3) := by decide +kernel
theorem dX11_hear_28 : decode cX11_hear 28 = .ok (.aload_n 0, 1) := by decide +kernel
theorem dX11_hear_29 : decode cX11_hear 29 = .ok (.iload_n 1, 1) := by decide +kernel
theorem dX11_hear_30 : decode cX11_hear 30 = .ok (.iconst 2, 1) := by decide +kernel
theorem dX11_hear_31 : decode cX11_hear 31 = .ok (.invokevirtual 117, 3) := by decide +kernel
theorem dX11_hear_34 : decode cX11_hear 34 = .ok (.goto 314, 3) := by decide +kernel
theorem dX11_hear_37 : decode cX11_hear 37 = .ok (.iload_n 2, 1) := by decide +kernel
theorem dX11_hear_38 : decode cX11_hear 38 = .ok (.iconst 4, 1) := by decide +kernel
theorem dX11_hear_39 : decode cX11_hear 39 = .ok (.if_icmp .ne 20, 3) := by decide +kernel
theorem dX11_hear_42 : decode cX11_hear 42 = .ok (.aload_n 0, 1) := by decide +kernel
theorem dX11_hear_43 : decode cX11_hear 43 = .ok (.getfield 98, 3) := by decide +kernel
theorem dX11_hear_46 : decode cX11_hear 46 = .ok (.iconst 2, 1) := by decide +kernel
theorem dX11_hear_47 : decode cX11_hear 47 = .ok (.if_icmp .ne 301, 3) := by decide +kernel
theorem dX11_hear_50 : decode cX11_hear 50 = .ok (.aload_n 0, 1) := by decide +kernel
theorem dX11_hear_51 : decode cX11_hear 51 = .ok (.iload_n 1, 1) := by decide +kernel
theorem dX11_hear_52 : decode cX11_hear 52 = .ok (.iconst 5, 1) := by decide +kernel
theorem dX11_hear_53 : decode cX11_hear 53 = .ok (.invokevirtual 117, 3) := by decide +kernel
theorem dX11_hear_56 : decode cX11_hear 56 = .ok (.goto 292, 3) := by decide +kernel
theorem dX11_hear_59 : decode cX11_hear 59 = .ok (.iload_n 2, 1) := by decide +kernel
theorem dX11_hear_60 : decode cX11_hear 60 = .ok (.iconst 2, 1) := by decide +kernel
theorem dX11_hear_61 : decode cX11_hear 61 = .ok (.if_icmp .eq 8, 3) := by decide +kernel
theorem dX11_hear_64 : decode cX11_hear 64 = .ok (.iload_n 2, 1) := by decide +kernel
theorem dX11_hear_65 : decode cX11_hear 65 = .ok (.iconst 5, 1) := by decide +kernel
theorem dX11_hear_66 : decode cX11_hear 66 = .ok (.if_icmp .ne 166, 3) := by decide +kernel
theorem dX11_hear_69 : decode cX11_hear 69 = .ok (.aload_n 0, 1) := by decide +kernel
theorem dX11_hear_70 : decode cX11_hear 70 = .ok (.getfield 98, 3) := by decide +kernel
theorem dX11_hear_73 : decode cX11_hear 73 = .ok (.iconst 3, 1) := by decide +kernel
theorem dX11_hear_74 : decode cX11_hear 74 = .ok (.if_icmp .eq 11, 3) := by decide +kernel
theorem dX11_hear_77 : decode cX11_hear 77 = .ok (.aload_n 0, 1) := by decide +kernel
theorem dX11_hear_78 : decode cX11_hear 78 = .ok (.getfield 98, 3) := by decide +kernel
theorem dX11_hear_81 : decode cX11_hear 81 = .ok (.iconst 4, 1) := by decide +kernel
theorem dX11_hear_82 : decode cX11_hear 82 = .ok (.if_icmp .ne 20, 3) := by decide +kernel
theorem dX11_hear_85 : decode cX11_hear 85 = .ok (.aload_n 0, 1) := by decide +kernel
theorem dX11_hear_86 : decode cX11_hear 86 = .ok (.getfield 107, 3) := by decide +kernel
theorem dX11_hear_89 : decode cX11_hear 89 = .ok (.aload_n 0, 1) := by decide +kernel
theorem dX11_hear_90 : decode cX11_hear 90 = .ok (.getfield 23, 3) := by decide +kernel
theorem dX11_hear_93 : decode cX11_hear 93 = .ok (.iload_n 1, 1) := by decide +kernel
theorem dX11_hear_94 : decode cX11_hear 94 = .ok (.iaload, 1) := by decide +kernel
theorem dX11_hear_95 : decode cX11_hear 95 = .ok (.if_icmp .ne 7, 3) := by decide +kernel
theorem dX11_hear_98 : decode cX11_hear 98 = .ok (.iconst 1, 1) := by decide +kernel
theorem dX11_hear_99 : decode cX11_hear 99 = .ok (.goto 4, 3) := by decide +kernel
theorem dX11_hear_102 : decode cX11_hear 102 = .ok (.iconst 0, 1) := by decide +kernel
theorem dX11_hear_103 : decode cX11_hear 103 = .ok (.istore_n 3, 1) := by decide +kernel
theorem dX11_hear_104 : decode cX11_hear 104 = .ok (.iload_n 3, 1) := by decide +kernel
theorem dX11_hear_105 : decode cX11_hear 105 = .ok (.ifCond .eq 15, 3) := by decide +kernel
theorem dX11_hear_108 : decode cX11_hear 108 = .ok (.aload_n 0, 1) := by decide +kernel
theorem dX11_hear_109 : decode cX11_hear 109 = .ok (.iload_n 1, 1) := by decide +kernel
theorem dX11_hear_110 : decode cX11_hear 110 = .ok (.invokevirtual 121, 3) := by decide +kernel
theorem dX11_hear_113 : decode cX11_hear 113 = .ok (.ifCond .eq 7, 3) := by decide +kernel
theorem dX11_hear_116 : decode cX11_hear 116 = .ok (.iconst 1, 1) := by decide +kernel
theorem dX11_hear_117 : decode cX11_hear 117 = .ok (.goto 4, 3) := by decide +kernel
theorem dX11_hear_120 : decode cX11_hear 120 = .ok (.iconst 0, 1) := by decide +kernel
theorem dX11_hear_121 : decode cX11_hear 121 = .ok (.istore 4, 2) := by decide +kernel
theorem dX11_hear_123 : decode cX11_hear 123 = .ok (.iload_n 3, 1) := by decide +kernel
theorem dX11_hear_124 : decode cX11_hear 124 = .ok (.ifCond .eq 24, 3) := by decide +kernel
theorem dX11_hear_127 : decode cX11_hear 127 = .ok (.aload_n 0, 1) := by decide +kernel
theorem dX11_hear_128 : decode cX11_hear 128 = .ok (.getfield 98, 3) := by decide +kernel
theorem dX11_hear_131 : decode cX11_hear 131 = .ok (.iconst 3, 1) := by decide +kernel
theorem dX11_hear_132 : decode cX11_hear 132 = .ok (.if_icmp .ne 16, 3) := by decide +kernel
theorem dX11_hear_135 : decode cX11_hear 135 = .ok (.iload 4, 2) := by decide +kernel
theorem dX11_hear_137 : decode cX11_hear 137 = .ok (.ifCond .eq 92, 3) := by decide +kernel
theorem dX11_hear_140 : decode cX11_hear 140 = .ok (.aload_n 0, 1) := by decide +kernel
theorem dX11_hear_141 : decode cX11_hear 141 = .ok (.iload_n 1, 1) := by decide +kernel
theorem dX11_hear_142 : decode cX11_hear 142 = .ok (.invokevirtual 124, 3) := by decide +kernel
theorem dX11_hear_145 : decode cX11_hear 145 = .ok (.goto 84, 3) := by decide +kernel
theorem dX11_hear_148 : decode cX11_hear 148 = .ok (.iload 4, 2) := by decide +kernel
theorem dX11_hear_150 : decode cX11_hear 150 = .ok (.ifCond .eq 74, 3) := by decide +kernel
theorem dX11_hear_153 : decode cX11_hear 153 = .ok (.aload_n 0, 1) := by decide +kernel
theorem dX11_hear_154 : decode cX11_hear 154 = .ok (.getfield 23, 3) := by decide +kernel
theorem dX11_hear_157 : decode cX11_hear 157 = .ok (.iload_n 1, 1) := by decide +kernel
theorem dX11_hear_158 : decode cX11_hear 158 = .ok (.iaload, 1) := by decide +kernel
theorem dX11_hear_159 : decode cX11_hear 159 = .ok (.aload_n 0, 1) := by decide +kernel
theorem dX11_hear_160 : decode cX11_hear 160 = .ok (.iload_n 1, 1) := by decide +kernel
theorem dX11_hear_161 : decode cX11_hear 161 = .ok (.invokevirtual 127, 3) := by decide +kernel
theorem dX11_hear_164 : decode cX11_hear 164 = .ok (.if_icmp .ne 7, 3) := by decide +kernel
theorem dX11_hear_167 : decode cX11_hear 167 = .ok (.iconst 1, 1) := by decide +kernel
theorem dX11_hear_168 : decode cX11_hear 168 = .ok (.goto 4, 3) := by decide +kernel
theorem dX11_hear_171 : decode cX11_hear 171 = .ok (.iconst 0, 1) := by decide +kernel
theorem dX11_hear_172 : decode cX11_hear 172 = .ok (.istore 5, 2) := by decide +kernel
theorem dX11_hear_174 : decode cX11_hear 174 = .ok (.aload_n 0, 1) := by decide +kernel
theorem dX11_hear_175 : decode cX11_hear 175 = .ok (.iload 5, 2) := by decide +kernel
theorem dX11_hear_177 : decode cX11_hear 177 = .ok (.ifCond .eq 8, 3) := by decide +kernel
theorem dX11_hear_180 : decode cX11_hear 180 = .ok (.bipush 32, 2) := by decide +kernel
theorem dX11_hear_182 : decode cX11_hear 182 = .ok (.goto 4, 3) := by decide +kernel
theorem dX11_hear_185 : decode cX11_hear 185 = .ok (.iconst 4, 1) := by decide +kernel
theorem dX11_hear_186 : decode cX11_hear 186 = .ok (.invokevirtual 113, 3) := by decide +kernel
theorem dX11_hear_189 : decode cX11_hear 189 = .ok (.aload_n 0, 1) := by decide +kernel
theorem dX11_hear_190 : decode cX11_hear 190 = .ok (.iconst 0, 1) := by decide +kernel
theorem dX11_hear_191 : decode cX11_hear 191 = .ok (.invokevirtual 130, 3) := by decide +kernel
theorem dX11_hear_194 : decode cX11_hear 194 = .ok (.iload 5, 2) := by decide +kernel
theorem dX11_hear_196 : decode cX11_hear 196 = .ok (.ifCond .eq 15, 3) := by decide +kernel
theorem dX11_hear_199 : decode cX11_hear 199 = .ok (.aload_n 0, 1) := by decide +kernel
theorem dX11_hear_200 : decode cX11_hear 200 = .ok (.getfield 20, 3) := by decide +kernel
theorem dX11_hear_203 : decode cX11_hear 203 = .ok (.iload_n 1, 1) := by decide +kernel
theorem dX11_hear_204 : decode cX11_hear 204 = .ok (.iload_n 2, 1) := by decide +kernel
theorem dX11_hear_205 : decode cX11_hear 205 = .ok (.iconst 1, 1) := by decide +kernel
theorem dX11_hear_206 : decode cX11_hear 206 = .ok (.iadd, 1) := by decide +kernel
theorem dX11_hear_207 : decode cX11_hear 207 = .ok (.iastore, 1) := by decide +kernel
theorem dX11_hear_208 : decode cX11_hear 208 = .ok (.goto 13, 3) := by decide +kernel
theorem dX11_hear_211 : decode cX11_hear 211 = .ok (.aload_n 0, 1) := by decide +kernel
theorem dX11_hear_212 : decode cX11_hear 212 = .ok (.getfield 23, 3) := by decide +kernel
theorem dX11_hear_215 : decode cX11_hear 215 = .ok (.iload_n 1, 1) := by decide +kernel
theorem dX11_hear_216 : decode cX11_hear 216 = .ok (.dup2, 1) := by decide +kernel
theorem dX11_hear_217 : decode cX11_hear 217 = .ok (.iaload, 1) := by decide +kernel
theorem dX11_hear_218 : decode cX11_hear 218 = .ok (.iconst 1, 1) := by decide +kernel
theorem dX11_hear_219 : decode cX11_hear 219 = .ok (.iadd, 1) := by decide +kernel
theorem dX11_hear_220 : decode cX11_hear 220 = .ok (.iastore, 1) := by decide +kernel
theorem dX11_hear_221 : decode cX11_hear 221 = .ok (.goto 8, 3) := by decide +kernel
theorem dX11_hear_224 : decode cX11_hear 224 = .ok (.aload_n 0, 1) := by decide +kernel
theorem dX11_hear_225 : decode cX11_hear 225 = .ok (.iload_n 1, 1) := by decide +kernel
theorem dX11_hear_226 : decode cX11_hear 226 = .ok (.invokevirtual 133, 3) := by decide +kernel
theorem dX11_hear_229 : decode cX11_hear 229 = .ok (.goto 119, 3) := by decide +kernel
theorem dX11_hear_232 : decode cX11_hear 232 = .ok (.iload_n 2, 1) := by decide +kernel
theorem dX11_hear_233 : decode cX11_hear 233 = .ok (.iconst 3, 1) := by decide +kernel
theorem dX11_hear_234 : decode cX11_hear 234 = .ok (.if_icmp .eq 9, 3) := by decide +kernel
theorem dX11_hear_237 : decode cX11_hear 237 = .ok (.iload_n 2, 1) := by decide +kernel
theorem dX11_hear_238 : decode cX11_hear 238 = .ok (.bipush 6, 2) := by decide +kernel
theorem dX11_hear_240 : decode cX11_hear 240 = .ok (.if_icmp .ne 74, 3) := by decide +kernel
theorem dX11_hear_243 : decode cX11_hear 243 = .ok (.aload_n 0, 1) := by decide +kernel
theorem dX11_hear_244 : decode cX11_hear 244 = .ok (.getfield 98, 3) := by decide +kernel
theorem dX11_hear_247 : decode cX11_hear 247 = .ok (.iconst 5, 1) := by decide +kernel
theorem dX11_hear_248 : decode cX11_hear 248 = .ok (.if_icmp .ne 13, 3) := by decide +kernel
theorem dX11_hear_251 : decode cX11_hear 251 = .ok (.aload_n 0, 1) := by decide +kernel
theorem dX11_hear_252 : decode cX11_hear 252 = .ok (.getfield 20, 3) := by decide +kernel
theorem dX11_hear_255 : decode cX11_hear 255 = .ok (.iload_n 1, 1) := by decide +kernel
theorem dX11_hear_256 : decode cX11_hear 256 = .ok (.iconst 4, 1) := by decide +kernel
theorem dX11_hear_257 : decode cX11_hear 257 = .ok (.iastore, 1) := by decide +kernel
theorem dX11_hear_258 : decode cX11_hear 258 = .ok (.goto 90, 3) := by decide +kernel
theorem dX11_hear_261 : decode cX11_hear 261 = .ok (.aload_n 0, 1) := by decide +kernel
theorem dX11_hear_262 : decode cX11_hear 262 = .ok (.getfield 98, 3) := by decide +kernel
theorem dX11_hear_265 : decode cX11_hear 265 = .ok (.bipush 6, 2) := by decide +kernel
theorem dX11_hear_267 : decode cX11_hear 267 = .ok (.if_icmp .ne 39, 3) := by decide +kernel
theorem dX11_hear_270 : decode cX11_hear 270 = .ok (.aload_n 0, 1) := by decide +kernel
theorem dX11_hear_271 : decode cX11_hear 271 = .ok (.getfield 20, 3) := by decide +kernel
theorem dX11_hear_274 : decode cX11_hear 274 = .ok (.iload_n 1, 1) := by decide +kernel
theorem dX11_hear_275 : decode cX11_hear 275 = .ok (.bipush 7, 2) := by decide +kernel
theorem dX11_hear_277 : decode cX11_hear 277 = .ok (.iastore, 1) := by decide +kernel
theorem dX11_hear_278 : decode cX11_hear 278 = .ok (.aload_n 0, 1) := by decide +kernel
theorem dX11_hear_279 : decode cX11_hear 279 = .ok (.iconst 3, 1) := by decide +kernel
theorem dX11_hear_280 : decode cX11_hear 280 = .ok (.invokevirtual 113, 3) := by decide +kernel
theorem dX11_hear_283 : decode cX11_hear 283 = .ok (.aload_n 0, 1) := by decide +kernel
theorem dX11_hear_284 : decode cX11_hear 284 = .ok (.iconst 2, 1) := by decide +kernel
theorem dX11_hear_285 : decode cX11_hear 285 = .ok (.invokevirtual 113, 3) := by decide +kernel
theorem dX11_hear_288 : decode cX11_hear 288 = .ok (.aload_n 0, 1) := by decide +kernel
theorem dX11_hear_289 : decode cX11_hear 289 = .ok (.aload_n 0, 1) := by decide +kernel
theorem dX11_hear_290 : decode cX11_hear 290 = .ok (.getfield 39, 3) := by decide +kernel
theorem dX11_hear_293 : decode cX11_hear 293 = .ok (.iconst 1, 1) := by decide +kernel
theorem dX11_hear_294 : decode cX11_hear 294 = .ok (.iaload, 1) := by decide +kernel
theorem dX11_hear_295 : decode cX11_hear 295 = .ok (.invokevirtual 113, 3) := by decide +kernel
theorem dX11_hear_298 : decode cX11_hear 298 = .ok (.aload_n 0, 1) := by decide +kernel
theorem dX11_hear_299 : decode cX11_hear 299 = .ok (.iconst 0, 1) := by decide +kernel
theorem dX11_hear_300 : decode cX11_hear 300 = .ok (.invokevirtual 130, 3) := by decide +kernel
theorem dX11_hear_303 : decode cX11_hear 303 = .ok (.goto 45, 3) := by decide +kernel
theorem dX11_hear_306 : decode cX11_hear 306 = .ok (.aload_n 0, 1) := by decide +kernel
theorem dX11_hear_307 : decode cX11_hear 307 = .ok (.iload_n 1, 1) := by decide +kernel
theorem dX11_hear_308 : decode cX11_hear 308 = .ok (.invokevirtual 133, 3) := by decide +kernel
theorem dX11_hear_311 : decode cX11_hear 311 = .ok (.goto 37, 3) := by decide +kernel
theorem dX11_hear_314 : decode cX11_hear 314 = .ok (.iload_n 2, 1) := by decide +kernel
theorem dX11_hear_315 : decode cX11_hear 315 = .ok (.bipush 7, 2) := by decide +kernel
theorem dX11_hear_317 : decode cX11_hear 317 = .ok (.if_icmp .ne 31, 3) := by decide +kernel
theorem dX11_hear_320 : decode cX11_hear 320 = .ok (.aload_n 0, 1) := by decide +kernel
theorem dX11_hear_321 : decode cX11_hear 321 = .ok (.getfield 98, 3) := by decide +kernel
theorem dX11_hear_324 : decode cX11_hear 324 = .ok (.bipush 7, 2) := by decide +kernel
theorem dX11_hear_326 : decode cX11_hear 326 = .ok (.if_icmp .ne 22, 3) := by decide +kernel
theorem dX11_hear_329 : decode cX11_hear 329 = .ok (.aload_n 0, 1) := by decide +kernel
theorem dX11_hear_330 : decode cX11_hear 330 = .ok (.getfield 20, 3) := by decide +kernel
theorem dX11_hear_333 : decode cX11_hear 333 = .ok (.iload_n 1, 1) := by decide +kernel
theorem dX11_hear_334 : decode cX11_hear 334 = .ok (.iconst 4, 1) := by decide +kernel
theorem dX11_hear_335 : decode cX11_hear 335 = .ok (.iastore, 1) := by decide +kernel
theorem dX11_hear_336 : decode cX11_hear 336 = .ok (.aload_n 0, 1) := by decide +kernel
theorem dX11_hear_337 : decode cX11_hear 337 = .ok (.sipush 194, 3) := by decide +kernel
theorem dX11_hear_340 : decode cX11_hear 340 = .ok (.invokevirtual 113, 3) := by decide +kernel
theorem dX11_hear_343 : decode cX11_hear 343 = .ok (.aload_n 0, 1) := by decide +kernel
theorem dX11_hear_344 : decode cX11_hear 344 = .ok (.iconst 0, 1) := by decide +kernel
theorem dX11_hear_345 : decode cX11_hear 345 = .ok (.invokevirtual 130, 3) := by decide +kernel
theorem dX11_hear_348 : decode cX11_hear 348 = .ok (.return_, 1) := by decide +kernel
theorem dX11_send_0 : decode cX11_send 0 = .ok (.aload_n 0, 1) := by decide +kernel
theorem dX11_send_1 : decode cX11_send 1 = .ok (.dup, 1) := by decide +kernel
theorem dX11_send_2 : decode cX11_send 2 = .ok (.getfield 136, 3) := by decide +kernel
theorem dX11_send_5 : decode cX11_send 5 = .ok (.iconst 1, 1) := by decide +kernel
theorem dX11_send_6 : decode cX11_send 6 = .ok (.iadd, 1) := by decide +kernel
theorem dX11_send_7 : decode cX11_send 7 = .ok (.putfield 136, 3) := by decide +kernel
theorem dX11_send_10 : decode cX11_send 10 = .ok (.aload_n 0, 1) := by decide +kernel
theorem dX11_send_11 : decode cX11_send 11 = .ok (.iconst 0, 1) := by decide +kernel
theorem dX11_send_12 : decode cX11_send 12 = .ok (.putfield 139, 3) := by decide +kernel
theorem dX11_send_15 : decode cX11_send 15 = .ok (.aload_n 0, 1) := by decide +kernel
theorem dX11_send_16 : decode cX11_send 16 = .ok (.getfield 29, 3) := by decide +kernel
theorem dX11_send_19 : decode cX11_send 19 = .ok (.ifCond .ne 4, 3) := by decide +kernel
theorem dX11_send_22 : decode cX11_send 22 = .ok (.return_, 1) := by decide +kernel
theorem dX11_send_23 : decode cX11_send 23 = .ok (.aload_n 0, 1) := by decide +kernel
theorem dX11_send_24 : decode cX11_send 24 = .ok (.invokevirtual 142, 3) := by decide +kernel
theorem dX11_send_27 : decode cX11_send 27 = .ok (.iconst 1, 1) := by decide +kernel
theorem dX11_send_28 : decode cX11_send 28 = .ok (.istore_n 1, 1) := by decide +kernel
theorem dX11_send_29 : decode cX11_send 29 = .ok (.iload_n 1, 1) := by decide +kernel
theorem dX11_send_30 : decode cX11_send 30 = .ok (.aload_n 0, 1) := by decide +kernel
theorem dX11_send_31 : decode cX11_send 31 = .ok (.getfield 67, 3) := by decide +kernel
theorem dX11_send_34 : decode cX11_send 34 = .ok (.if_icmp .gt 96, 3) := by decide +kernel
theorem dX11_send_37 : decode cX11_send 37 = .ok (.aload_n 0, 1) := by decide +kernel
theorem dX11_send_38 : decode cX11_send 38 = .ok (.iconst 0, 1) := by decide +kernel
theorem dX11_send_39 : decode cX11_send 39 = .ok (.putfield 110, 3) := by decide +kernel
theorem dX11_send_42 : decode cX11_send 42 = .ok (.aload_n 0, 1) := by decide +kernel
theorem dX11_send_43 : decode cX11_send 43 = .ok (.getfield 20, 3) := by decide +kernel
theorem dX11_send_46 : decode cX11_send 46 = .ok (.iload_n 1, 1) := by decide +kernel
theorem dX11_send_47 : decode cX11_send 47 = .ok (.iaload, 1) := by decide +kernel
theorem dX11_send_48 : decode cX11_send 48 = .ok (.ifCond .le 8, 3) := by decide +kernel
theorem dX11_send_51 : decode cX11_send 51 = .ok (.aload_n 0, 1) := by decide +kernel
theorem dX11_send_52 : decode cX11_send 52 = .ok (.iload_n 1, 1) := by decide +kernel
theorem dX11_send_53 : decode cX11_send 53 = .ok (.invokevirtual 145, 3) := by decide +kernel
theorem dX11_send_56 : decode cX11_send 56 = .ok (.iconst 0, 1) := by decide +kernel
theorem dX11_send_57 : decode cX11_send 57 = .ok (.istore_n 2, 1) := by decide +kernel
theorem dX11_send_58 : decode cX11_send 58 = .ok (.iload_n 2, 1) := by decide +kernel
theorem dX11_send_59 : decode cX11_send 59 = .ok (.aload_n 0, 1) := by decide +kernel
theorem dX11_send_60 : decode cX11_send 60 = .ok (.getfield 110, 3) := by decide +kernel
theorem dX11_send_63 : decode cX11_send 63 = .ok (.if_icmp .ge 61, 3) := by decide +kernel
theorem dX11_send_66 : decode cX11_send 66 = .ok (.iload_n 2, 1) := by decide +kernel
theorem dX11_send_67 : decode cX11_send 67 = .ok (.aload_n 0, 1) := by decide +kernel
theorem dX11_send_68 : decode cX11_send 68 = .ok (.getfield 139, 3) := by decide +kernel
theorem dX11_send_71 : decode cX11_send 71 = .ok (.if_icmp .lt 25, 3) := by decide +kernel
theorem dX11_send_74 : decode cX11_send 74 = .ok (.aload_n 0, 1) := by decide +kernel
theorem dX11_send_75 : decode cX11_send 75 = .ok (.getfield 48, 3) := by decide +kernel
theorem dX11_send_78 : decode cX11_send 78 = .ok (.iload_n 2, 1) := by decide +kernel
theorem dX11_send_79 : decode cX11_send 79 = .ok (.aload_n 0, 1) := by decide +kernel
theorem dX11_send_80 : decode cX11_send 80 = .ok (.getfield 45, 3) := by decide +kernel
theorem dX11_send_83 : decode cX11_send 83 = .ok (.iload_n 2, 1) := by decide +kernel
theorem dX11_send_84 : decode cX11_send 84 = .ok (.iaload, 1) := by decide +kernel
theorem dX11_send_85 : decode cX11_send 85 = .ok (.iastore, 1) := by decide +kernel
theorem dX11_send_86 : decode cX11_send 86 = .ok (.aload_n 0, 1) := by decide +kernel
theorem dX11_send_87 : decode cX11_send 87 = .ok (.iload_n 2, 1) := by decide +kernel
theorem dX11_send_88 : decode cX11_send 88 = .ok (.iconst 1, 1) := by decide +kernel
theorem dX11_send_89 : decode cX11_send 89 = .ok (.iadd, 1) := by decide +kernel
theorem dX11_send_90 : decode cX11_send 90 = .ok (.putfield 139, 3) := by decide +kernel
theorem dX11_send_93 : decode cX11_send 93 = .ok (.goto 25, 3) := by decide +kernel
theorem dX11_send_96 : decode cX11_send 96 = .ok (.aload_n 0, 1) := by decide +kernel
theorem dX11_send_97 : decode cX11_send 97 = .ok (.getfield 48, 3) := by decide +kernel
theorem dX11_send_100 : decode cX11_send 100 = .ok (.iload_n 2, 1) := by decide +kernel
theorem dX11_send_101 : decode cX11_send 101 = .ok (.iaload, 1) := by decide +kernel
theorem dX11_send_102 : decode cX11_send 102 = .ok (.aload_n 0, 1) := by decide +kernel
theorem dX11_send_103 : decode cX11_send 103 = .ok (.getfield 45, 3) := by decide +kernel
theorem dX11_send_106 : decode cX11_send 106 = .ok (.iload_n 2, 1) := by decide +kernel
theorem dX11_send_107 : decode cX11_send 107 = .ok (.iaload, 1) := by decide +kernel
theorem dX11_send_108 : decode cX11_send 108 = .ok (.if_icmp .eq 10, 3) := by decide +kernel
theorem dX11_send_111 : decode cX11_send 111 = .ok (.aload_n 0, 1) := by decide +kernel
theorem dX11_send_112 : decode cX11_send 112 = .ok (.getfield 48, 3) := by decide +kernel
theorem dX11_send_115 : decode cX11_send 115 = .ok (.iload_n 2, 1) := by decide +kernel
theorem dX11_send_116 : decode cX11_send 116 = .ok (.iconst 2, 1) := by decide +kernel
theorem dX11_send_117 : decode cX11_send 117 = .ok (.iastore, 1) := by decide +kernel
theorem dX11_send_118 : decode cX11_send 118 = .ok (.iinc 2 1, 3) := by decide +kernel
theorem dX11_send_121 : decode cX11_send 121 = .ok (.goto (-63), 3) := by decide +kernel
theorem dX11_send_124 : decode cX11_send 124 = .ok (.iinc 1 1, 3) := by decide +kernel
theorem dX11_send_127 : decode cX11_send 127 = .ok (.goto (-98), 3) := by decide +kernel
theorem dX11_send_130 : decode cX11_send 130 = .ok (.return_, 1) := by decide +kernel
theorem dX11_go_0 : decode cX11_go 0 = .ok (.aload_n 0, 1) := by decide +kernel
theorem dX11_go_1 : decode cX11_go 1 = .ok (.aload_n 0, 1) := by decide +kernel
theorem dX11_go_2 : decode cX11_go 2 = .ok (.getfield 79, 3) := by decide +kernel
theorem dX11_go_5 : decode cX11_go 5 = .ok (.putfield 104, 3) := by decide +kernel
theorem dX11_go_8 : decode cX11_go 8 = .ok (.iconst 0, 1) := by decide +kernel
theorem dX11_go_9 : decode cX11_go 9 = .ok (.istore_n 1, 1) := by decide +kernel
theorem dX11_go_10 : decode cX11_go 10 = .ok (.iload_n 1, 1) := by decide +kernel
theorem dX11_go_11 : decode cX11_go 11 = .ok (.aload_n 0, 1) := by decide +kernel
theorem dX11_go_12 : decode cX11_go 12 = .ok (.getfield 104, 3) := by decide +kernel
theorem dX11_go_15 : decode cX11_go 15 = .ok (.if_icmp .ge 21, 3) := by decide +kernel
theorem dX11_go_18 : decode cX11_go 18 = .ok (.aload_n 0, 1) := by decide +kernel
theorem dX11_go_19 : decode cX11_go 19 = .ok (.getfield 36, 3) := by decide +kernel
theorem dX11_go_22 : decode cX11_go 22 = .ok (.iload_n 1, 1) := by decide +kernel
theorem dX11_go_23 : decode cX11_go 23 = .ok (.aload_n 0, 1) := by decide +kernel
theorem dX11_go_24 : decode cX11_go 24 = .ok (.getfield 33, 3) := by decide +kernel
theorem dX11_go_27 : decode cX11_go 27 = .ok (.iload_n 1, 1) := by decide +kernel
theorem dX11_go_28 : decode cX11_go 28 = .ok (.iaload, 1) := by decide +kernel
theorem dX11_go_29 : decode cX11_go 29 = .ok (.iastore, 1) := by decide +kernel
theorem dX11_go_30 : decode cX11_go 30 = .ok (.iinc 1 1, 3) := by decide +kernel
theorem dX11_go_33 : decode cX11_go 33 = .ok (.goto (-23), 3) := by decide +kernel
theorem dX11_go_36 : decode cX11_go 36 = .ok (.aload_n 0, 1) := by decide +kernel
theorem dX11_go_37 : decode cX11_go 37 = .ok (.iconst 0, 1) := by decide +kernel
theorem dX11_go_38 : decode cX11_go 38 = .ok (.putfield 79, 3) := by decide +kernel
theorem dX11_go_41 : decode cX11_go 41 = .ok (.aload_n 0, 1) := by decide +kernel
theorem dX11_go_42 : decode cX11_go 42 = .ok (.invokevirtual 148, 3) := by decide +kernel
theorem dX11_go_45 : decode cX11_go 45 = .ok (.aload_n 0, 1) := by decide +kernel
theorem dX11_go_46 : decode cX11_go 46 = .ok (.aload_n 0, 1) := by decide +kernel
theorem dX11_go_47 : decode cX11_go 47 = .ok (.getfield 139, 3) := by decide +kernel
theorem dX11_go_50 : decode cX11_go 50 = .ok (.putfield 151, 3) := by decide +kernel
theorem dX11_go_53 : decode cX11_go 53 = .ok (.iconst 0, 1) := by decide +kernel
theorem dX11_go_54 : decode cX11_go 54 = .ok (.istore_n 1, 1) := by decide +kernel
theorem dX11_go_55 : decode cX11_go 55 = .ok (.iload_n 1, 1) := by decide +kernel
theorem dX11_go_56 : decode cX11_go 56 = .ok (.aload_n 0, 1) := by decide +kernel
theorem dX11_go_57 : decode cX11_go 57 = .ok (.getfield 139, 3) := by decide +kernel
theorem dX11_go_60 : decode cX11_go 60 = .ok (.if_icmp .ge 21, 3) := by decide +kernel
theorem dX11_go_63 : decode cX11_go 63 = .ok (.aload_n 0, 1) := by decide +kernel
theorem dX11_go_64 : decode cX11_go 64 = .ok (.getfield 51, 3) := by decide +kernel
theorem dX11_go_67 : decode cX11_go 67 = .ok (.iload_n 1, 1) := by decide +kernel
theorem dX11_go_68 : decode cX11_go 68 = .ok (.aload_n 0, 1) := by decide +kernel
theorem dX11_go_69 : decode cX11_go 69 = .ok (.getfield 48, 3) := by decide +kernel
theorem dX11_go_72 : decode cX11_go 72 = .ok (.iload_n 1, 1) := by decide +kernel
theorem dX11_go_73 : decode cX11_go 73 = .ok (.iaload, 1) := by decide +kernel
theorem dX11_go_74 : decode cX11_go 74 = .ok (.iastore, 1) := by decide +kernel
theorem dX11_go_75 : decode cX11_go 75 = .ok (.iinc 1 1, 3) := by decide +kernel
theorem dX11_go_78 : decode cX11_go 78 = .ok (.goto (-23), 3) := by decide +kernel
theorem dX11_go_81 : decode cX11_go 81 = .ok (.aload_n 0, 1) := by decide +kernel
theorem dX11_go_82 : decode cX11_go 82 = .ok (.getfield 151, 3) := by decide +kernel
theorem dX11_go_85 : decode cX11_go 85 = .ok (.ireturn, 1) := by decide +kernel
theorem dX11_answer_0 : decode cX11_answer 0 = .ok (.iload_n 1, 1) := by decide +kernel
theorem dX11_answer_1 : decode cX11_answer 1 = .ok (.ifCond .lt 11, 3) := by decide +kernel
theorem dX11_answer_4 : decode cX11_answer 4 = .ok (.iload_n 1, 1) := by decide +kernel
theorem dX11_answer_5 : decode cX11_answer 5 = .ok (.aload_n 0, 1) := by decide +kernel
theorem dX11_answer_6 : decode cX11_answer 6 = .ok (.getfield 151, 3) := by decide +kernel
theorem dX11_answer_9 : decode cX11_answer 9 = .ok (.if_icmp .lt 7, 3) := by decide +kernel
theorem dX11_answer_12 : decode cX11_answer 12 = .ok (.iconst (-1), 1) := by decide +kernel
theorem dX11_answer_13 : decode cX11_answer 13 = .ok (.goto 9, 3) := by decide +kernel
theorem dX11_answer_16 : decode cX11_answer 16 = .ok (.aload_n 0, 1) := by decide +kernel
theorem dX11_answer_17 : decode cX11_answer 17 = .ok (.getfield 51, 3) := by decide +kernel
theorem dX11_answer_20 : decode cX11_answer 20 = .ok (.iload_n 1, 1) := by decide +kernel
theorem dX11_answer_21 : decode cX11_answer 21 = .ok (.iaload, 1) := by decide +kernel
theorem dX11_answer_22 : decode cX11_answer 22 = .ok (.ireturn, 1) := by decide +kernel
theorem dX11_state_0 : decode cX11_state 0 = .ok (.aload_n 0, 1) := by decide +kernel
theorem dX11_state_1 : decode cX11_state 1 = .ok (.iload_n 1, 1) := by decide +kernel
theorem dX11_state_2 : decode cX11_state 2 = .ok (.invokevirtual 75, 3) := by decide +kernel
theorem dX11_state_5 : decode cX11_state 5 = .ok (.ifCond .ne 6, 3) := by decide +kernel
theorem dX11_state_8 : decode cX11_state 8 = .ok (.bipush (-11), 2) := by decide +kernel
theorem dX11_state_10 : decode cX11_state 10 = .ok (.ireturn, 1) := by decide +kernel
theorem dX11_state_11 : decode cX11_state 11 = .ok (.aload_n 0, 1) := by decide +kernel
theorem dX11_state_12 : decode cX11_state 12 = .ok (.getfield 20, 3) := by decide +kernel
theorem dX11_state_15 : decode cX11_state 15 = .ok (.iload_n 1, 1) := by decide +kernel
theorem dX11_state_16 : decode cX11_state 16 = .ok (.iaload, 1) := by decide +kernel
theorem dX11_state_17 : decode cX11_state 17 = .ok (.iconst 2, 1) := by decide +kernel
theorem dX11_state_18 : decode cX11_state 18 = .ok (.if_icmp .eq 13, 3) := by decide +kernel
theorem dX11_state_21 : decode cX11_state 21 = .ok (.aload_n 0, 1) := by decide +kernel
theorem dX11_state_22 : decode cX11_state 22 = .ok (.getfield 20, 3) := by decide +kernel
theorem dX11_state_25 : decode cX11_state 25 = .ok (.iload_n 1, 1) := by decide +kernel
theorem dX11_state_26 : decode cX11_state 26 = .ok (.iaload, 1) := by decide +kernel
theorem dX11_state_27 : decode cX11_state 27 = .ok (.iconst 5, 1) := by decide +kernel
theorem dX11_state_28 : decode cX11_state 28 = .ok (.if_icmp .ne 24, 3) := by decide +kernel
theorem dX11_state_31 : decode cX11_state 31 = .ok (.aload_n 0, 1) := by decide +kernel
theorem dX11_state_32 : decode cX11_state 32 = .ok (.getfield 20, 3) := by decide +kernel
theorem dX11_state_35 : decode cX11_state 35 = .ok (.iload_n 1, 1) := by decide +kernel
theorem dX11_state_36 : decode cX11_state 36 = .ok (.iaload, 1) := by decide +kernel
theorem dX11_state_37 : decode cX11_state 37 = .ok (.bipush 10, 2) := by decide +kernel
theorem dX11_state_39 : decode cX11_state 39 = .ok (.aload_n 0, 1) := by decide +kernel
theorem dX11_state_40 : decode cX11_state 40 = .ok (.getfield 23, 3) := by decide +kernel
theorem dX11_state_43 : decode cX11_state 43 = .ok (.iload_n 1, 1) := by decide +kernel
theorem dX11_state_44 : decode cX11_state 44 = .ok (.iaload, 1) := by decide +kernel
theorem dX11_state_45 : decode cX11_state 45 = .ok (.iconst 1, 1) := by decide +kernel
theorem dX11_state_46 : decode cX11_state 46 = .ok (.isub, 1) := by decide +kernel
theorem dX11_state_47 : decode cX11_state 47 = .ok (.imul, 1) := by decide +kernel
theorem dX11_state_48 : decode cX11_state 48 = .ok (.iadd, 1) := by decide +kernel
theorem dX11_state_49 : decode cX11_state 49 = .ok (.goto 9, 3) := by decide +kernel
theorem dX11_state_52 : decode cX11_state 52 = .ok (.aload_n 0, 1) := by decide +kernel
theorem dX11_state_53 : decode cX11_state 53 = .ok (.getfield 20, 3) := by decide +kernel
theorem dX11_state_56 : decode cX11_state 56 = .ok (.iload_n 1, 1) := by decide +kernel
theorem dX11_state_57 : decode cX11_state 57 = .ok (.iaload, 1) := by decide +kernel
theorem dX11_state_58 : decode cX11_state 58 = .ok (.ireturn, 1) := by decide +kernel
theorem dX11_put_0 : decode cX11_put 0 = .ok (.iconst 0, 1) := by decide +kernel
theorem dX11_put_1 : decode cX11_put 1 = .ok (.istore_n 2, 1) := by decide +kernel
theorem dX11_put_2 : decode cX11_put 2 = .ok (.iload_n 2, 1) := by decide +kernel
theorem dX11_put_3 : decode cX11_put 3 = .ok (.bipush 8, 2) := by decide +kernel
theorem dX11_put_5 : decode cX11_put 5 = .ok (.if_icmp .ge 25, 3) := by decide +kernel
theorem dX11_put_8 : decode cX11_put 8 = .ok (.aload_n 0, 1) := by decide +kernel
theorem dX11_put_9 : decode cX11_put 9 = .ok (.getfield 36, 3) := by decide +kernel
theorem dX11_put_12 : decode cX11_put 12 = .ok (.aload_n 0, 1) := by decide +kernel
theorem dX11_put_13 : decode cX11_put 13 = .ok (.getfield 104, 3) := by decide +kernel
theorem dX11_put_16 : decode cX11_put 16 = .ok (.iload_n 2, 1) := by decide +kernel
theorem dX11_put_17 : decode cX11_put 17 = .ok (.iadd, 1) := by decide +kernel
theorem dX11_put_18 : decode cX11_put 18 = .ok (.iload_n 1, 1) := by decide +kernel
theorem dX11_put_19 : decode cX11_put 19 = .ok (.iload_n 2, 1) := by decide +kernel
theorem dX11_put_20 : decode cX11_put 20 = .ok (.ishr, 1) := by decide +kernel
theorem dX11_put_21 : decode cX11_put 21 = .ok (.iconst 1, 1) := by decide +kernel
theorem dX11_put_22 : decode cX11_put 22 = .ok (.iand, 1) := by decide +kernel
theorem dX11_put_23 : decode cX11_put 23 = .ok (.iastore, 1) := by decide +kernel
theorem dX11_put_24 : decode cX11_put 24 = .ok (.iinc 2 1, 3) := by decide +kernel
theorem dX11_put_27 : decode cX11_put 27 = .ok (.goto (-25), 3) := by decide +kernel
theorem dX11_put_30 : decode cX11_put 30 = .ok (.aload_n 0, 1) := by decide +kernel
theorem dX11_put_31 : decode cX11_put 31 = .ok (.getfield 36, 3) := by decide +kernel
theorem dX11_put_34 : decode cX11_put 34 = .ok (.aload_n 0, 1) := by decide +kernel
theorem dX11_put_35 : decode cX11_put 35 = .ok (.getfield 104, 3) := by decide +kernel
theorem dX11_put_38 : decode cX11_put 38 = .ok (.bipush 8, 2) := by decide +kernel
theorem dX11_put_40 : decode cX11_put 40 = .ok (.iadd, 1) := by decide +kernel
theorem dX11_put_41 : decode cX11_put 41 = .ok (.iload_n 1, 1) := by decide +kernel
theorem dX11_put_42 : decode cX11_put 42 = .ok (.invokestatic 82, 3) := by decide +kernel
theorem dX11_put_45 : decode cX11_put 45 = .ok (.iastore, 1) := by decide +kernel
theorem dX11_put_46 : decode cX11_put 46 = .ok (.aload_n 0, 1) := by decide +kernel
theorem dX11_put_47 : decode cX11_put 47 = .ok (.dup, 1) := by decide +kernel
theorem dX11_put_48 : decode cX11_put 48 = .ok (.getfield 104, 3) := by decide +kernel
theorem dX11_put_51 : decode cX11_put 51 = .ok (.bipush 9, 2) := by decide +kernel
theorem dX11_put_53 : decode cX11_put 53 = .ok (.iadd, 1) := by decide +kernel
theorem dX11_put_54 : decode cX11_put 54 = .ok (.putfield 104, 3) := by decide +kernel
theorem dX11_put_57 : decode cX11_put 57 = .ok (.return_, 1) := by decide +kernel
theorem dX11_putChecked_0 : decode cX11_putChecked 0 = .ok (.sipush 25443, 3) := by decide +kernel
theorem dX11_putChecked_3 : decode cX11_putChecked 3 = .ok (.istore_n 1, 1) := by decide +kernel
theorem dX11_putChecked_4 : decode cX11_putChecked 4 = .ok (.iconst 0, 1) := by decide +kernel
theorem dX11_putChecked_5 : decode cX11_putChecked 5 = .ok (.istore_n 2, 1) := by decide +kernel
theorem dX11_putChecked_6 : decode cX11_putChecked 6 = .ok (.iload_n 2, 1) := by decide +kernel
theorem dX11_putChecked_7 : decode cX11_putChecked 7 = .ok (.aload_n 0, 1) := by decide +kernel
theorem dX11_putChecked_8 : decode cX11_putChecked 8 = .ok (.getfield 104, 3) := by decide +kernel
theorem dX11_putChecked_11 : decode cX11_putChecked 11 = .ok (.if_icmp .ge 22, 3) := by decide +kernel
theorem dX11_putChecked_14 : decode cX11_putChecked 14 = .ok (.iload_n 1, 1) := by decide +kernel
theorem dX11_putChecked_15 : decode cX11_putChecked 15 = .ok (.aload_n 0, 1) := by decide +kernel
theorem dX11_putChecked_16 : decode cX11_putChecked 16 = .ok (.getfield 36, 3) := by decide +kernel
theorem dX11_putChecked_19 : decode cX11_putChecked 19 = .ok (.iload_n 2, 1) := by decide +kernel
theorem dX11_putChecked_20 : decode cX11_putChecked 20 = .ok (.invokestatic 90, 3) := by decide +kernel
theorem dX11_putChecked_23 : decode cX11_putChecked 23 = .ok (.invokestatic 94, 3) := by decide +kernel
theorem dX11_putChecked_26 : decode cX11_putChecked 26 = .ok (.istore_n 1, 1) := by decide +kernel
theorem dX11_putChecked_27 : decode cX11_putChecked 27 = .ok (.iinc 2 9, 3) := by decide +kernel
theorem dX11_putChecked_30 : decode cX11_putChecked 30 = .ok (.goto (-24), 3) := by decide +kernel
theorem dX11_putChecked_33 : decode cX11_putChecked 33 = .ok (.aload_n 0, 1) := by decide +kernel
theorem dX11_putChecked_34 : decode cX11_putChecked 34 = .ok (.iload_n 1, 1) := by decide +kernel
theorem dX11_putChecked_35 : decode cX11_putChecked 35 = .ok (.sipush 256, 3) := by decide +kernel
theorem dX11_putChecked_38 : decode cX11_putChecked 38 = .ok (.irem, 1) := by decide +kernel
theorem dX11_putChecked_39 : decode cX11_putChecked 39 = .ok (.invokevirtual 154, 3) := by decide +kernel
theorem dX11_putChecked_42 : decode cX11_putChecked 42 = .ok (.aload_n 0, 1) := by decide +kernel
theorem dX11_putChecked_43 : decode cX11_putChecked 43 = .ok (.iload_n 1, 1) := by decide +kernel
theorem dX11_putChecked_44 : decode cX11_putChecked 44 = .ok (.sipush 256, 3) := by decide +kernel
theorem dX11_putChecked_47 : decode cX11_putChecked 47 = .ok (.idiv, 1) := by decide +kernel
theorem dX11_putChecked_48 : decode cX11_putChecked 48 = .ok (.invokevirtual 154, 3) := by decide +kernel
theorem dX11_putChecked_51 : decode cX11_putChecked 51 = .ok (.return_, 1) := by decide +kernel
theorem dX11_sendShort_0 : decode cX11_sendShort 0 = .ok (.aload_n 0, 1) := by decide +kernel
theorem dX11_sendShort_1 : decode cX11_sendShort 1 = .ok (.bipush 7, 2) := by decide +kernel
theorem dX11_sendShort_3 : decode cX11_sendShort 3 = .ok (.putfield 104, 3) := by decide +kernel
theorem dX11_sendShort_6 : decode cX11_sendShort 6 = .ok (.iconst 0, 1) := by decide +kernel
theorem dX11_sendShort_7 : decode cX11_sendShort 7 = .ok (.istore_n 2, 1) := by decide +kernel
theorem dX11_sendShort_8 : decode cX11_sendShort 8 = .ok (.iload_n 2, 1) := by decide +kernel
theorem dX11_sendShort_9 : decode cX11_sendShort 9 = .ok (.bipush 7, 2) := by decide +kernel
theorem dX11_sendShort_11 : decode cX11_sendShort 11 = .ok (.if_icmp .ge 20, 3) := by decide +kernel
theorem dX11_sendShort_14 : decode cX11_sendShort 14 = .ok (.aload_n 0, 1) := by decide +kernel
theorem dX11_sendShort_15 : decode cX11_sendShort 15 = .ok (.getfield 36, 3) := by decide +kernel
theorem dX11_sendShort_18 : decode cX11_sendShort 18 = .ok (.iload_n 2, 1) := by decide +kernel
theorem dX11_sendShort_19 : decode cX11_sendShort 19 = .ok (.iload_n 1, 1) := by decide +kernel
theorem dX11_sendShort_20 : decode cX11_sendShort 20 = .ok (.iload_n 2, 1) := by decide +kernel
theorem dX11_sendShort_21 : decode cX11_sendShort 21 = .ok (.ishr, 1) := by decide +kernel
theorem dX11_sendShort_22 : decode cX11_sendShort 22 = .ok (.iconst 1, 1) := by decide +kernel
theorem dX11_sendShort_23 : decode cX11_sendShort 23 = .ok (.iand, 1) := by decide +kernel
theorem dX11_sendShort_24 : decode cX11_sendShort 24 = .ok (.iastore, 1) := by decide +kernel
theorem dX11_sendShort_25 : decode cX11_sendShort 25 = .ok (.iinc 2 1, 3) := by decide +kernel
theorem dX11_sendShort_28 : decode cX11_sendShort 28 = .ok (.goto (-20), 3) := by decide +kernel
theorem dX11_sendShort_31 : decode cX11_sendShort 31 = .ok (.aload_n 0, 1) := by decide +kernel
theorem dX11_sendShort_32 : decode cX11_sendShort 32 = .ok (.invokevirtual 148, 3) := by decide +kernel
theorem dX11_sendShort_35 : decode cX11_sendShort 35 = .ok (.return_, 1) := by decide +kernel
theorem dX11_knownByte_0 : decode cX11_knownByte 0 = .ok (.iconst 0, 1) := by decide +kernel
theorem dX11_knownByte_1 : decode cX11_knownByte 1 = .ok (.istore_n 2, 1) := by decide +kernel
theorem dX11_knownByte_2 : decode cX11_knownByte 2 = .ok (.iconst 0, 1) := by decide +kernel
theorem dX11_knownByte_3 : decode cX11_knownByte 3 = .ok (.istore_n 3, 1) := by decide +kernel
theorem dX11_knownByte_4 : decode cX11_knownByte 4 = .ok (.iload_n 3, 1) := by decide +kernel
theorem dX11_knownByte_5 : decode cX11_knownByte 5 = .ok (.bipush 8, 2) := by decide +kernel
theorem dX11_knownByte_7 : decode cX11_knownByte 7 = .ok (.if_icmp .ge 25, 3) := by decide +kernel
theorem dX11_knownByte_10 : decode cX11_knownByte 10 = .ok (.iload_n 2, 1) := by decide +kernel
theorem dX11_knownByte_11 : decode cX11_knownByte 11 = .ok (.aload_n 0, 1) := by decide +kernel
theorem dX11_knownByte_12 : decode cX11_knownByte 12 = .ok (.getfield 60, 3) := by decide +kernel
theorem dX11_knownByte_15 : decode cX11_knownByte 15 = .ok (.bipush 8, 2) := by decide +kernel
theorem dX11_knownByte_17 : decode cX11_knownByte 17 = .ok (.iload_n 1, 1) := by decide +kernel
theorem dX11_knownByte_18 : decode cX11_knownByte 18 = .ok (.imul, 1) := by decide +kernel
theorem dX11_knownByte_19 : decode cX11_knownByte 19 = .ok (.iload_n 3, 1) := by decide +kernel
theorem dX11_knownByte_20 : decode cX11_knownByte 20 = .ok (.iadd, 1) := by decide +kernel
theorem dX11_knownByte_21 : decode cX11_knownByte 21 = .ok (.iaload, 1) := by decide +kernel
theorem dX11_knownByte_22 : decode cX11_knownByte 22 = .ok (.iload_n 3, 1) := by decide +kernel
theorem dX11_knownByte_23 : decode cX11_knownByte 23 = .ok (.ishl, 1) := by decide +kernel
theorem dX11_knownByte_24 : decode cX11_knownByte 24 = .ok (.ior, 1) := by decide +kernel
theorem dX11_knownByte_25 : decode cX11_knownByte 25 = .ok (.istore_n 2, 1) := by decide +kernel
theorem dX11_knownByte_26 : decode cX11_knownByte 26 = .ok (.iinc 3 1, 3) := by decide +kernel
theorem dX11_knownByte_29 : decode cX11_knownByte 29 = .ok (.goto (-25), 3) := by decide +kernel
theorem dX11_knownByte_32 : decode cX11_knownByte 32 = .ok (.iload_n 2, 1) := by decide +kernel
theorem dX11_knownByte_33 : decode cX11_knownByte 33 = .ok (.ireturn, 1) := by decide +kernel
theorem dX11_sendSearch_0 : decode cX11_sendSearch 0 = .ok (.aload_n 0, 1) := by decide +kernel
theorem dX11_sendSearch_1 : decode cX11_sendSearch 1 = .ok (.iconst 0, 1) := by decide +kernel
theorem dX11_sendSearch_2 : decode cX11_sendSearch 2 = .ok (.putfield 104, 3) := by decide +kernel
theorem dX11_sendSearch_5 : decode cX11_sendSearch 5 = .ok (.aload_n 0, 1) := by decide +kernel
theorem dX11_sendSearch_6 : decode cX11_sendSearch 6 = .ok (.sipush 145, 3) := by decide +kernel
theorem dX11_sendSearch_9 : decode cX11_sendSearch 9 = .ok (.iconst 2, 1) := by decide +kernel
theorem dX11_sendSearch_10 : decode cX11_sendSearch 10 = .ok (.iload_n 1, 1) := by decide +kernel
theorem dX11_sendSearch_11 : decode cX11_sendSearch 11 = .ok (.imul, 1) := by decide +kernel
theorem dX11_sendSearch_12 : decode cX11_sendSearch 12 = .ok (.iadd, 1) := by decide +kernel
theorem dX11_sendSearch_13 : decode cX11_sendSearch 13 = .ok (.invokevirtual 154, 3) := by decide +kernel
theorem dX11_sendSearch_16 : decode cX11_sendSearch 16 = .ok (.aload_n 0, 1) := by decide +kernel
theorem dX11_sendSearch_17 : decode cX11_sendSearch 17 = .ok (.bipush 16, 2) := by decide +kernel
theorem dX11_sendSearch_19 : decode cX11_sendSearch 19 = .ok (.iconst 2, 1) := by decide +kernel
theorem dX11_sendSearch_20 : decode cX11_sendSearch 20 = .ok (.aload_n 0, 1) := by decide +kernel
theorem dX11_sendSearch_21 : decode cX11_sendSearch 21 = .ok (.getfield 157, 3) := by decide +kernel
theorem dX11_sendSearch_24 : decode cX11_sendSearch 24 = .ok (.bipush 8, 2) := by decide +kernel
theorem dX11_sendSearch_26 : decode cX11_sendSearch 26 = .ok (.idiv, 1) := by decide +kernel
theorem dX11_sendSearch_27 : decode cX11_sendSearch 27 = .ok (.iadd, 1) := by decide +kernel
theorem dX11_sendSearch_28 : decode cX11_sendSearch 28 = .ok (.imul, 1) := by decide +kernel
theorem dX11_sendSearch_29 : decode cX11_sendSearch 29 = .ok (.aload_n 0, 1) := by decide +kernel
theorem dX11_sendSearch_30 : decode cX11_sendSearch 30 = .ok (.getfield 157, 3) := by decide +kernel
theorem dX11_sendSearch_33 : decode cX11_sendSearch 33 = .ok (.bipush 8, 2) := by decide +kernel
theorem dX11_sendSearch_35 : decode cX11_sendSearch 35 = .ok (.irem, 1) := by decide +kernel
theorem dX11_sendSearch_36 : decode cX11_sendSearch 36 = .ok (.iadd, 1) := by decide +kernel
theorem dX11_sendSearch_37 : decode cX11_sendSearch 37 = .ok (.invokevirtual 154, 3) := by decide +kernel
theorem dX11_sendSearch_40 : decode cX11_sendSearch 40 = .ok (.iconst 0, 1) := by decide +kernel
theorem dX11_sendSearch_41 : decode cX11_sendSearch 41 = .ok (.istore_n 2, 1) := by decide +kernel
theorem dX11_sendSearch_42 : decode cX11_sendSearch 42 = .ok (.iload_n 2, 1) := by decide +kernel
theorem dX11_sendSearch_43 : decode cX11_sendSearch 43 = .ok (.aload_n 0, 1) := by decide +kernel
theorem dX11_sendSearch_44 : decode cX11_sendSearch 44 = .ok (.getfield 157, 3) := by decide +kernel
theorem dX11_sendSearch_47 : decode cX11_sendSearch 47 = .ok (.bipush 8, 2) := by decide +kernel
theorem dX11_sendSearch_49 : decode cX11_sendSearch 49 = .ok (.idiv, 1) := by decide +kernel
theorem dX11_sendSearch_50 : decode cX11_sendSearch 50 = .ok (.if_icmp .ge 18, 3) := by decide +kernel
theorem dX11_sendSearch_53 : decode cX11_sendSearch 53 = .ok (.aload_n 0, 1) := by decide +kernel
theorem dX11_sendSearch_54 : decode cX11_sendSearch 54 = .ok (.aload_n 0, 1) := by decide +kernel
theorem dX11_sendSearch_55 : decode cX11_sendSearch 55 = .ok (.iload_n 2, 1) := by decide +kernel
theorem dX11_sendSearch_56 : decode cX11_sendSearch 56 = .ok (.invokevirtual 160, 3) := by decide +kernel
theorem dX11_sendSearch_59 : decode cX11_sendSearch 59 = .ok (.invokevirtual 154, 3) := by decide +kernel
theorem dX11_sendSearch_62 : decode cX11_sendSearch 62 = .ok (.iinc 2 1, 3) := by decide +kernel
theorem dX11_sendSearch_65 : decode cX11_sendSearch 65 = .ok (.goto (-23), 3) := by decide +kernel
theorem dX11_sendSearch_68 : decode cX11_sendSearch 68 = .ok (.aload_n 0, 1) := by decide +kernel
theorem dX11_sendSearch_69 : decode cX11_sendSearch 69 = .ok (.getfield 157, 3) := by decide +kernel
theorem dX11_sendSearch_72 : decode cX11_sendSearch 72 = .ok (.bipush 8, 2) := by decide +kernel
theorem dX11_sendSearch_74 : decode cX11_sendSearch 74 = .ok (.idiv, 1) := by decide +kernel
theorem dX11_sendSearch_75 : decode cX11_sendSearch 75 = .ok (.bipush 8, 2) := by decide +kernel
theorem dX11_sendSearch_77 : decode cX11_sendSearch 77 = .ok (.imul, 1) := by decide +kernel
theorem dX11_sendSearch_78 : decode cX11_sendSearch 78 = .ok (.istore_n 2, 1) := by decide +kernel
theorem dX11_sendSearch_79 : decode cX11_sendSearch 79 = .ok (.iload_n 2, 1) := by decide +kernel
theorem dX11_sendSearch_80 : decode cX11_sendSearch 80 = .ok (.aload_n 0, 1) := by decide +kernel
theorem dX11_sendSearch_81 : decode cX11_sendSearch 81 = .ok (.getfield 157, 3) := by decide +kernel
theorem dX11_sendSearch_84 : decode cX11_sendSearch 84 = .ok (.if_icmp .ge 34, 3) := by decide +kernel
theorem dX11_sendSearch_87 : decode cX11_sendSearch 87 = .ok (.aload_n 0, 1) := by decide +kernel
theorem dX11_sendSearch_88 : decode cX11_sendSearch 88 = .ok (.getfield 36, 3) := by decide +kernel
theorem dX11_sendSearch_91 : decode cX11_sendSearch 91 = .ok (.aload_n 0, 1) := by decide +kernel
theorem dX11_sendSearch_92 : decode cX11_sendSearch 92 = .ok (.getfield 104, 3) := by decide +kernel
theorem dX11_sendSearch_95 : decode cX11_sendSearch 95 = .ok (.aload_n 0, 1) := by decide +kernel
theorem dX11_sendSearch_96 : decode cX11_sendSearch 96 = .ok (.getfield 60, 3) := by decide +kernel
theorem dX11_sendSearch_99 : decode cX11_sendSearch 99 = .ok (.iload_n 2, 1) := by decide +kernel
theorem dX11_sendSearch_100 : decode cX11_sendSearch 100 = .ok (.iaload, 1) := by decide +kernel
theorem dX11_sendSearch_101 : decode cX11_sendSearch 101 = .ok (.iastore, 1) := by decide +kernel
theorem dX11_sendSearch_102 : decode cX11_sendSearch 102 = .ok (.aload_n 0, 1) := by decide +kernel
theorem dX11_sendSearch_103 : decode cX11_sendSearch 103 = .ok (.dup, 1) := by decide +kernel
theorem dX11_sendSearch_104 : decode cX11_sendSearch 104 = .ok (.getfield 104, 3) := by decide +kernel
theorem dX11_sendSearch_107 : decode cX11_sendSearch 107 = .ok (.iconst 1, 1) := by decide +kernel
theorem dX11_sendSearch_108 : decode cX11_sendSearch 108 = .ok (.iadd, 1) := by decide +kernel
theorem dX11_sendSearch_109 : decode cX11_sendSearch 109 = .ok (.putfield 104, 3) := by decide +kernel
theorem dX11_sendSearch_112 : decode cX11_sendSearch 112 = .ok (.iinc 2 1, 3) := by decide +kernel
theorem dX11_sendSearch_115 : decode cX11_sendSearch 115 = .ok (.goto (-36), 3) := by decide +kernel
theorem dX11_sendSearch_118 : decode cX11_sendSearch 118 = .ok (.aload_n 0, 1) := by decide +kernel
theorem dX11_sendSearch_119 : decode cX11_sendSearch 119 = .ok (.invokevirtual 148, 3) := by decide +kernel
theorem dX11_sendSearch_122 : decode cX11_sendSearch 122 = .ok (.return_, 1) := by decide +kernel
theorem dX11_knows_0 : decode cX11_knows 0 = .ok (.aload_n 0, 1) := by decide +kernel
theorem dX11_knows_1 : decode cX11_knows 1 = .ok (.iconst 0, 1) := by decide +kernel
theorem dX11_knows_2 : decode cX11_knows 2 = .ok (.putfield 157, 3) := by decide +kernel
theorem dX11_knows_5 : decode cX11_knows 5 = .ok (.aload_n 0, 1) := by decide +kernel
theorem dX11_knows_6 : decode cX11_knows 6 = .ok (.getfield 157, 3) := by decide +kernel
theorem dX11_knows_9 : decode cX11_knows 9 = .ok (.bipush 40, 2) := by decide +kernel
theorem dX11_knows_11 : decode cX11_knows 11 = .ok (.if_icmp .ge 105, 3) := by decide +kernel
theorem dX11_knows_14 : decode cX11_knows 14 = .ok (.aload_n 0, 1) := by decide +kernel
theorem dX11_knows_15 : decode cX11_knows 15 = .ok (.iload_n 1, 1) := by decide +kernel
theorem dX11_knows_16 : decode cX11_knows 16 = .ok (.invokevirtual 163, 3) := by decide +kernel
theorem dX11_knows_19 : decode cX11_knows 19 = .ok (.aload_n 0, 1) := by decide +kernel
theorem dX11_knows_20 : decode cX11_knows 20 = .ok (.getfield 139, 3) := by decide +kernel
theorem dX11_knows_23 : decode cX11_knows 23 = .ok (.ifCond .ne 5, 3) := by decide +kernel
theorem dX11_knows_26 : decode cX11_knows 26 = .ok (.iconst 0, 1) := by decide +kernel
theorem dX11_knows_27 : decode cX11_knows 27 = .ok (.ireturn, 1) := by decide +kernel
theorem dX11_knows_28 : decode cX11_knows 28 = .ok (.iconst 1, 1) := by decide +kernel
theorem dX11_knows_29 : decode cX11_knows 29 = .ok (.istore_n 2, 1) := by decide +kernel
theorem dX11_knows_30 : decode cX11_knows 30 = .ok (.iconst 0, 1) := by decide +kernel
theorem dX11_knows_31 : decode cX11_knows 31 = .ok (.istore_n 3, 1) := by decide +kernel
theorem dX11_knows_32 : decode cX11_knows 32 = .ok (.aload_n 0, 1) := by decide +kernel
theorem dX11_knows_33 : decode cX11_knows 33 = .ok (.getfield 157, 3) := by decide +kernel
theorem dX11_knows_36 : decode cX11_knows 36 = .ok (.bipush 40, 2) := by decide +kernel
theorem dX11_knows_38 : decode cX11_knows 38 = .ok (.if_icmp .ge 75, 3) := by decide +kernel
theorem dX11_knows_41 : decode cX11_knows 41 = .ok (.iload_n 2, 1) := by decide +kernel
theorem dX11_knows_42 : decode cX11_knows 42 = .ok (.ifCond .eq 71, 3) := by decide +kernel
theorem dX11_knows_45 : decode cX11_knows 45 = .ok (.aload_n 0, 1) := by decide +kernel
theorem dX11_knows_46 : decode cX11_knows 46 = .ok (.getfield 48, 3) := by decide +kernel
theorem dX11_knows_49 : decode cX11_knows 49 = .ok (.iload_n 3, 1) := by decide +kernel
theorem dX11_knows_50 : decode cX11_knows 50 = .ok (.iaload, 1) := by decide +kernel
theorem dX11_knows_51 : decode cX11_knows 51 = .ok (.iconst 2, 1) := by decide +kernel
theorem dX11_knows_52 : decode cX11_knows 52 = .ok (.if_icmp .ge 7, 3) := by decide +kernel
theorem dX11_knows_55 : decode cX11_knows 55 = .ok (.iconst 1, 1) := by decide +kernel
theorem dX11_knows_56 : decode cX11_knows 56 = .ok (.goto 4, 3) := by decide +kernel
theorem dX11_knows_59 : decode cX11_knows 59 = .ok (.iconst 0, 1) := by decide +kernel
theorem dX11_knows_60 : decode cX11_knows 60 = .ok (.istore_n 2, 1) := by decide +kernel
theorem dX11_knows_61 : decode cX11_knows 61 = .ok (.aload_n 0, 1) := by decide +kernel
theorem dX11_knows_62 : decode cX11_knows 62 = .ok (.getfield 60, 3) := by decide +kernel
theorem dX11_knows_65 : decode cX11_knows 65 = .ok (.aload_n 0, 1) := by decide +kernel
theorem dX11_knows_66 : decode cX11_knows 66 = .ok (.getfield 157, 3) := by decide +kernel
theorem dX11_knows_69 : decode cX11_knows 69 = .ok (.iload_n 2, 1) := by decide +kernel
theorem dX11_knows_70 : decode cX11_knows 70 = .ok (.ifCond .eq 12, 3) := by decide +kernel
theorem dX11_knows_73 : decode cX11_knows 73 = .ok (.aload_n 0, 1) := by decide +kernel
theorem dX11_knows_74 : decode cX11_knows 74 = .ok (.getfield 48, 3) := by decide +kernel
theorem dX11_knows_77 : decode cX11_knows 77 = .ok (.iload_n 3, 1) := by decide +kernel
theorem dX11_knows_78 : decode cX11_knows 78 = .ok (.iaload, 1) := by decide +kernel
theorem dX11_knows_79 : decode cX11_knows 79 = .ok (.goto 4, 3) := by decide +kernel
theorem dX11_knows_82 : decode cX11_knows 82 = .ok (.iconst 1, 1) := by decide +kernel
theorem dX11_knows_83 : decode cX11_knows 83 = .ok (.iastore, 1) := by decide +kernel
theorem dX11_knows_84 : decode cX11_knows 84 = .ok (.aload_n 0, 1) := by decide +kernel
theorem dX11_knows_85 : decode cX11_knows 85 = .ok (.dup, 1) := by decide +kernel
theorem dX11_knows_86 : decode cX11_knows 86 = .ok (.getfield 157, 3) := by decide +kernel
theorem dX11_knows_89 : decode cX11_knows 89 = .ok (.iconst 1, 1) := by decide +kernel
theorem dX11_knows_90 : decode cX11_knows 90 = .ok (.iadd, 1) := by decide +kernel
theorem dX11_knows_91 : decode cX11_knows 91 = .ok (.putfield 157, 3) := by decide +kernel
theorem dX11_knows_94 : decode cX11_knows 94 = .ok (.aload_n 0, 1) := by decide +kernel
theorem dX11_knows_95 : decode cX11_knows 95 = .ok (.getfield 157, 3) := by decide +kernel
theorem dX11_knows_98 : decode cX11_knows 98 = .ok (.bipush 8, 2) := by decide +kernel
theorem dX11_knows_100 : decode cX11_knows 100 = .ok (.irem, 1) := by decide +kernel
theorem dX11_knows_101 : decode cX11_knows 101 = .ok (.ifCond .ne 6, 3) := by decide +kernel
theorem dX11_knows_104 : decode cX11_knows 104 = .ok (.iinc 3 1, 3) := by decide +kernel
theorem dX11_knows_107 : decode cX11_knows 107 = .ok (.iinc 3 1, 3) := by decide +kernel
theorem dX11_knows_110 : decode cX11_knows 110 = .ok (.goto (-78), 3) := by decide +kernel
theorem dX11_knows_113 : decode cX11_knows 113 = .ok (.goto (-108), 3) := by decide +kernel
theorem dX11_knows_116 : decode cX11_knows 116 = .ok (.iconst 1, 1) := by decide +kernel
theorem dX11_knows_117 : decode cX11_knows 117 = .ok (.ireturn, 1) := by decide +kernel
theorem dX11_chooses_0 : decode cX11_chooses 0 = .ok (.aload_n 0, 1) := by decide +kernel
theorem dX11_chooses_1 : decode cX11_chooses 1 = .ok (.iconst 0, 1) := by decide +kernel
theorem dX11_chooses_2 : decode cX11_chooses 2 = .ok (.putfield 104, 3) := by decide +kernel
theorem dX11_chooses_5 : decode cX11_chooses 5 = .ok (.aload_n 0, 1) := by decide +kernel
theorem dX11_chooses_6 : decode cX11_chooses 6 = .ok (.sipush 145, 3) := by decide +kernel
theorem dX11_chooses_9 : decode cX11_chooses 9 = .ok (.iconst 2, 1) := by decide +kernel
theorem dX11_chooses_10 : decode cX11_chooses 10 = .ok (.iload_n 1, 1) := by decide +kernel
theorem dX11_chooses_11 : decode cX11_chooses 11 = .ok (.imul, 1) := by decide +kernel
theorem dX11_chooses_12 : decode cX11_chooses 12 = .ok (.iadd, 1) := by decide +kernel
theorem dX11_chooses_13 : decode cX11_chooses 13 = .ok (.invokevirtual 154, 3) := by decide +kernel
theorem dX11_chooses_16 : decode cX11_chooses 16 = .ok (.aload_n 0, 1) := by decide +kernel
theorem dX11_chooses_17 : decode cX11_chooses 17 = .ok (.bipush 112, 2) := by decide +kernel
theorem dX11_chooses_19 : decode cX11_chooses 19 = .ok (.invokevirtual 154, 3) := by decide +kernel
theorem dX11_chooses_22 : decode cX11_chooses 22 = .ok (.iconst 0, 1) := by decide +kernel
theorem dX11_chooses_23 : decode cX11_chooses 23 = .ok (.istore_n 2, 1) := by decide +kernel
theorem dX11_chooses_24 : decode cX11_chooses 24 = .ok (.iload_n 2, 1) := by decide +kernel
theorem dX11_chooses_25 : decode cX11_chooses 25 = .ok (.iconst 5, 1) := by decide +kernel
theorem dX11_chooses_26 : decode cX11_chooses 26 = .ok (.if_icmp .ge 18, 3) := by decide +kernel
theorem dX11_chooses_29 : decode cX11_chooses 29 = .ok (.aload_n 0, 1) := by decide +kernel
theorem dX11_chooses_30 : decode cX11_chooses 30 = .ok (.aload_n 0, 1) := by decide +kernel
theorem dX11_chooses_31 : decode cX11_chooses 31 = .ok (.iload_n 2, 1) := by decide +kernel
theorem dX11_chooses_32 : decode cX11_chooses 32 = .ok (.invokevirtual 160, 3) := by decide +kernel
theorem dX11_chooses_35 : decode cX11_chooses 35 = .ok (.invokevirtual 154, 3) := by decide +kernel
theorem dX11_chooses_38 : decode cX11_chooses 38 = .ok (.iinc 2 1, 3) := by decide +kernel
theorem dX11_chooses_41 : decode cX11_chooses 41 = .ok (.goto (-17), 3) := by decide +kernel
theorem dX11_chooses_44 : decode cX11_chooses 44 = .ok (.aload_n 0, 1) := by decide +kernel
theorem dX11_chooses_45 : decode cX11_chooses 45 = .ok (.invokevirtual 166, 3) := by decide +kernel
theorem dX11_chooses_48 : decode cX11_chooses 48 = .ok (.aload_n 0, 1) := by decide +kernel
theorem dX11_chooses_49 : decode cX11_chooses 49 = .ok (.invokevirtual 148, 3) := by decide +kernel
theorem dX11_chooses_52 : decode cX11_chooses 52 = .ok (.aload_n 0, 1) := by decide +kernel
theorem dX11_chooses_53 : decode cX11_chooses 53 = .ok (.getfield 139, 3) := by decide +kernel
theorem dX11_chooses_56 : decode cX11_chooses 56 = .ok (.ifCond .ne 5, 3) := by decide +kernel
theorem dX11_chooses_59 : decode cX11_chooses 59 = .ok (.iconst (-1), 1) := by decide +kernel
theorem dX11_chooses_60 : decode cX11_chooses 60 = .ok (.ireturn, 1) := by decide +kernel
theorem dX11_chooses_61 : decode cX11_chooses 61 = .ok (.iconst 0, 1) := by decide +kernel
theorem dX11_chooses_62 : decode cX11_chooses 62 = .ok (.istore_n 2, 1) := by decide +kernel
theorem dX11_chooses_63 : decode cX11_chooses 63 = .ok (.iconst 0, 1) := by decide +kernel
theorem dX11_chooses_64 : decode cX11_chooses 64 = .ok (.istore_n 3, 1) := by decide +kernel
theorem dX11_chooses_65 : decode cX11_chooses 65 = .ok (.iload_n 3, 1) := by decide +kernel
theorem dX11_chooses_66 : decode cX11_chooses 66 = .ok (.bipush 8, 2) := by decide +kernel
theorem dX11_chooses_68 : decode cX11_chooses 68 = .ok (.if_icmp .ge 22, 3) := by decide +kernel
theorem dX11_chooses_71 : decode cX11_chooses 71 = .ok (.iload_n 2, 1) := by decide +kernel
theorem dX11_chooses_72 : decode cX11_chooses 72 = .ok (.aload_n 0, 1) := by decide +kernel
theorem dX11_chooses_73 : decode cX11_chooses 73 = .ok (.getfield 48, 3) := by decide +kernel
theorem dX11_chooses_76 : decode cX11_chooses 76 = .ok (.iload_n 3, 1) := by decide +kernel
theorem dX11_chooses_77 : decode cX11_chooses 77 = .ok (.iaload, 1) := by decide +kernel
theorem dX11_chooses_78 : decode cX11_chooses 78 = .ok (.iconst 1, 1) := by decide +kernel
theorem dX11_chooses_79 : decode cX11_chooses 79 = .ok (.iand, 1) := by decide +kernel
theorem dX11_chooses_80 : decode cX11_chooses 80 = .ok (.iload_n 3, 1) := by decide +kernel
theorem dX11_chooses_81 : decode cX11_chooses 81 = .ok (.ishl, 1) := by decide +kernel
theorem dX11_chooses_82 : decode cX11_chooses 82 = .ok (.ior, 1) := by decide +kernel
theorem dX11_chooses_83 : decode cX11_chooses 83 = .ok (.istore_n 2, 1) := by decide +kernel
theorem dX11_chooses_84 : decode cX11_chooses 84 = .ok (.iinc 3 1, 3) := by decide +kernel
theorem dX11_chooses_87 : decode cX11_chooses 87 = .ok (.goto (-22), 3) := by decide +kernel
theorem dX11_chooses_90 : decode cX11_chooses 90 = .ok (.iload_n 2, 1) := by decide +kernel
theorem dX11_chooses_91 : decode cX11_chooses 91 = .ok (.ireturn, 1) := by decide +kernel
theorem dX11_round_0 : decode cX11_round 0 = .ok (.aload_n 0, 1) := by decide +kernel
theorem dX11_round_1 : decode cX11_round 1 = .ok (.iconst 0, 1) := by decide +kernel
theorem dX11_round_2 : decode cX11_round 2 = .ok (.putfield 169, 3) := by decide +kernel
theorem dX11_round_5 : decode cX11_round 5 = .ok (.iconst 1, 1) := by decide +kernel
theorem dX11_round_6 : decode cX11_round 6 = .ok (.istore_n 1, 1) := by decide +kernel
theorem dX11_round_7 : decode cX11_round 7 = .ok (.iload_n 1, 1) := by decide +kernel
theorem dX11_round_8 : decode cX11_round 8 = .ok (.ifCond .eq 194, 3) := by decide +kernel
theorem dX11_round_11 : decode cX11_round 11 = .ok (.aload_n 0, 1) := by decide +kernel
theorem dX11_round_12 : decode cX11_round 12 = .ok (.getfield 169, 3) := by decide +kernel
theorem dX11_round_15 : decode cX11_round 15 = .ok (.bipush 40, 2) := by decide +kernel
theorem dX11_round_17 : decode cX11_round 17 = .ok (.if_icmp .ge 185, 3) := by decide +kernel
theorem dX11_round_20 : decode cX11_round 20 = .ok (.aload_n 0, 1) := by decide +kernel
theorem dX11_round_21 : decode cX11_round 21 = .ok (.bipush 38, 2) := by decide +kernel
theorem dX11_round_23 : decode cX11_round 23 = .ok (.invokevirtual 172, 3) := by decide +kernel
theorem dX11_round_26 : decode cX11_round 26 = .ok (.aload_n 0, 1) := by decide +kernel
theorem dX11_round_27 : decode cX11_round 27 = .ok (.getfield 139, 3) := by decide +kernel
theorem dX11_round_30 : decode cX11_round 30 = .ok (.ifCond .le 7, 3) := by decide +kernel
theorem dX11_round_33 : decode cX11_round 33 = .ok (.iconst 1, 1) := by decide +kernel
theorem dX11_round_34 : decode cX11_round 34 = .ok (.goto 4, 3) := by decide +kernel
theorem dX11_round_37 : decode cX11_round 37 = .ok (.iconst 0, 1) := by decide +kernel
theorem dX11_round_38 : decode cX11_round 38 = .ok (.istore_n 1, 1) := by decide +kernel
theorem dX11_round_39 : decode cX11_round 39 = .ok (.iload_n 1, 1) := by decide +kernel
theorem dX11_round_40 : decode cX11_round 40 = .ok (.istore_n 2, 1) := by decide +kernel
theorem dX11_round_41 : decode cX11_round 41 = .ok (.iconst 0, 1) := by decide +kernel
theorem dX11_round_42 : decode cX11_round 42 = .ok (.istore_n 3, 1) := by decide +kernel
theorem dX11_round_43 : decode cX11_round 43 = .ok (.iconst 1, 1) := by decide +kernel
theorem dX11_round_44 : decode cX11_round 44 = .ok (.istore 4, 2) := by decide +kernel
theorem dX11_round_46 : decode cX11_round 46 = .ok (.iload_n 2, 1) := by decide +kernel
theorem dX11_round_47 : decode cX11_round 47 = .ok (.ifCond .eq 99, 3) := by decide +kernel
theorem dX11_round_50 : decode cX11_round 50 = .ok (.aload_n 0, 1) := by decide +kernel
theorem dX11_round_51 : decode cX11_round 51 = .ok (.iload 4, 2) := by decide +kernel
theorem dX11_round_53 : decode cX11_round 53 = .ok (.invokevirtual 175, 3) := by decide +kernel
theorem dX11_round_56 : decode cX11_round 56 = .ok (.ifCond .ne 8, 3) := by decide +kernel
theorem dX11_round_59 : decode cX11_round 59 = .ok (.aload_n 0, 1) := by decide +kernel
theorem dX11_round_60 : decode cX11_round 60 = .ok (.getfield 169, 3) := by decide +kernel
theorem dX11_round_63 : decode cX11_round 63 = .ok (.ireturn, 1) := by decide +kernel
theorem dX11_round_64 : decode cX11_round 64 = .ok (.aload_n 0, 1) := by decide +kernel
theorem dX11_round_65 : decode cX11_round 65 = .ok (.iload 4, 2) := by decide +kernel
theorem dX11_round_67 : decode cX11_round 67 = .ok (.invokevirtual 178, 3) := by decide +kernel
theorem dX11_round_70 : decode cX11_round 70 = .ok (.istore 5, 2) := by decide +kernel
theorem dX11_round_72 : decode cX11_round 72 = .ok (.iload 5, 2) := by decide +kernel
theorem dX11_round_74 : decode cX11_round 74 = .ok (.ifCond .ge 8, 3) := by decide +kernel
theorem dX11_round_77 : decode cX11_round 77 = .ok (.aload_n 0, 1) := by decide +kernel
theorem dX11_round_78 : decode cX11_round 78 = .ok (.getfield 169, 3) := by decide +kernel
theorem dX11_round_81 : decode cX11_round 81 = .ok (.ireturn, 1) := by decide +kernel
theorem dX11_round_82 : decode cX11_round 82 = .ok (.iload 5, 2) := by decide +kernel
theorem dX11_round_84 : decode cX11_round 84 = .ok (.iconst 4, 1) := by decide +kernel
theorem dX11_round_85 : decode cX11_round 85 = .ok (.if_icmp .ne 7, 3) := by decide +kernel
theorem dX11_round_88 : decode cX11_round 88 = .ok (.iconst 1, 1) := by decide +kernel
theorem dX11_round_89 : decode cX11_round 89 = .ok (.goto 4, 3) := by decide +kernel
theorem dX11_round_92 : decode cX11_round 92 = .ok (.iconst 0, 1) := by decide +kernel
theorem dX11_round_93 : decode cX11_round 93 = .ok (.istore_n 2, 1) := by decide +kernel
theorem dX11_round_94 : decode cX11_round 94 = .ok (.iload_n 2, 1) := by decide +kernel
theorem dX11_round_95 : decode cX11_round 95 = .ok (.ifCond .eq 7, 3) := by decide +kernel
theorem dX11_round_98 : decode cX11_round 98 = .ok (.iconst 1, 1) := by decide +kernel
theorem dX11_round_99 : decode cX11_round 99 = .ok (.goto 4, 3) := by decide +kernel
theorem dX11_round_102 : decode cX11_round 102 = .ok (.iconst 0, 1) := by decide +kernel
theorem dX11_round_103 : decode cX11_round 103 = .ok (.istore 6, 2) := by decide +kernel
theorem dX11_round_105 : decode cX11_round 105 = .ok (.iload 6, 2) := by decide +kernel
theorem dX11_round_107 : decode cX11_round 107 = .ok (.iconst 4, 1) := by decide +kernel
theorem dX11_round_108 : decode cX11_round 108 = .ok (.if_icmp .ge 32, 3) := by decide +kernel
theorem dX11_round_111 : decode cX11_round 111 = .ok (.aload_n 0, 1) := by decide +kernel
theorem dX11_round_112 : decode cX11_round 112 = .ok (.getfield 57, 3) := by decide +kernel
theorem dX11_round_115 : decode cX11_round 115 = .ok (.bipush 10, 2) := by decide +kernel
theorem dX11_round_117 : decode cX11_round 117 = .ok (.aload_n 0, 1) := by decide +kernel
theorem dX11_round_118 : decode cX11_round 118 = .ok (.getfield 169, 3) := by decide +kernel
theorem dX11_round_121 : decode cX11_round 121 = .ok (.imul, 1) := by decide +kernel
theorem dX11_round_122 : decode cX11_round 122 = .ok (.iload_n 3, 1) := by decide +kernel
theorem dX11_round_123 : decode cX11_round 123 = .ok (.iadd, 1) := by decide +kernel
theorem dX11_round_124 : decode cX11_round 124 = .ok (.aload_n 0, 1) := by decide +kernel
theorem dX11_round_125 : decode cX11_round 125 = .ok (.iload 6, 2) := by decide +kernel
theorem dX11_round_127 : decode cX11_round 127 = .ok (.invokevirtual 160, 3) := by decide +kernel
theorem dX11_round_130 : decode cX11_round 130 = .ok (.iastore, 1) := by decide +kernel
theorem dX11_round_131 : decode cX11_round 131 = .ok (.iinc 3 1, 3) := by decide +kernel
theorem dX11_round_134 : decode cX11_round 134 = .ok (.iinc 6 1, 3) := by decide +kernel
theorem dX11_round_137 : decode cX11_round 137 = .ok (.goto (-32), 3) := by decide +kernel
theorem dX11_round_140 : decode cX11_round 140 = .ok (.iinc 4 1, 3) := by decide +kernel
theorem dX11_round_143 : decode cX11_round 143 = .ok (.goto (-97), 3) := by decide +kernel
theorem dX11_round_146 : decode cX11_round 146 = .ok (.iload_n 1, 1) := by decide +kernel
theorem dX11_round_147 : decode cX11_round 147 = .ok (.ifCond .ne 8, 3) := by decide +kernel
theorem dX11_round_150 : decode cX11_round 150 = .ok (.aload_n 0, 1) := by decide +kernel
theorem dX11_round_151 : decode cX11_round 151 = .ok (.getfield 169, 3) := by decide +kernel
theorem dX11_round_154 : decode cX11_round 154 = .ok (.ireturn, 1) := by decide +kernel
theorem dX11_round_155 : decode cX11_round 155 = .ok (.aload_n 0, 1) := by decide +kernel
theorem dX11_round_156 : decode cX11_round 156 = .ok (.getfield 54, 3) := by decide +kernel
theorem dX11_round_159 : decode cX11_round 159 = .ok (.aload_n 0, 1) := by decide +kernel
theorem dX11_round_160 : decode cX11_round 160 = .ok (.getfield 169, 3) := by decide +kernel
theorem dX11_round_163 : decode cX11_round 163 = .ok (.iload_n 3, 1) := by decide +kernel
theorem dX11_round_164 : decode cX11_round 164 = .ok (.iastore, 1) := by decide +kernel
theorem dX11_round_165 : decode cX11_round 165 = .ok (.aload_n 0, 1) := by decide +kernel
theorem dX11_round_166 : decode cX11_round 166 = .ok (.dup, 1) := by decide +kernel
theorem dX11_round_167 : decode cX11_round 167 = .ok (.getfield 169, 3) := by decide +kernel
theorem dX11_round_170 : decode cX11_round 170 = .ok (.iconst 1, 1) := by decide +kernel
theorem dX11_round_171 : decode cX11_round 171 = .ok (.iadd, 1) := by decide +kernel
theorem dX11_round_172 : decode cX11_round 172 = .ok (.putfield 169, 3) := by decide +kernel
theorem dX11_round_175 : decode cX11_round 175 = .ok (.aload_n 0, 1) := by decide +kernel
theorem dX11_round_176 : decode cX11_round 176 = .ok (.iconst 0, 1) := by decide +kernel
theorem dX11_round_177 : decode cX11_round 177 = .ok (.putfield 104, 3) := by decide +kernel
theorem dX11_round_180 : decode cX11_round 180 = .ok (.aload_n 0, 1) := by decide +kernel
theorem dX11_round_181 : decode cX11_round 181 = .ok (.bipush 80, 2) := by decide +kernel
theorem dX11_round_183 : decode cX11_round 183 = .ok (.invokevirtual 154, 3) := by decide +kernel
theorem dX11_round_186 : decode cX11_round 186 = .ok (.aload_n 0, 1) := by decide +kernel
theorem dX11_round_187 : decode cX11_round 187 = .ok (.iconst 0, 1) := by decide +kernel
theorem dX11_round_188 : decode cX11_round 188 = .ok (.invokevirtual 154, 3) := by decide +kernel
theorem dX11_round_191 : decode cX11_round 191 = .ok (.aload_n 0, 1) := by decide +kernel
theorem dX11_round_192 : decode cX11_round 192 = .ok (.invokevirtual 166, 3) := by decide +kernel
theorem dX11_round_195 : decode cX11_round 195 = .ok (.aload_n 0, 1) := by decide +kernel
theorem dX11_round_196 : decode cX11_round 196 = .ok (.invokevirtual 148, 3) := by decide +kernel
theorem dX11_round_199 : decode cX11_round 199 = .ok (.goto (-192), 3) := by decide +kernel
theorem dX11_round_202 : decode cX11_round 202 = .ok (.aload_n 0, 1) := by decide +kernel
theorem dX11_round_203 : decode cX11_round 203 = .ok (.getfield 169, 3) := by decide +kernel
theorem dX11_round_206 : decode cX11_round 206 = .ok (.ireturn, 1) := by decide +kernel
theorem dX11_found_0 : decode cX11_found 0 = .ok (.iload_n 1, 1) := by decide +kernel
theorem dX11_found_1 : decode cX11_found 1 = .ok (.ifCond .lt 25, 3) := by decide +kernel
theorem dX11_found_4 : decode cX11_found 4 = .ok (.iload_n 1, 1) := by decide +kernel
theorem dX11_found_5 : decode cX11_found 5 = .ok (.aload_n 0, 1) := by decide +kernel
theorem dX11_found_6 : decode cX11_found 6 = .ok (.getfield 169, 3) := by decide +kernel
theorem dX11_found_9 : decode cX11_found 9 = .ok (.if_icmp .ge 17, 3) := by decide +kernel
theorem dX11_found_12 : decode cX11_found 12 = .ok (.iload_n 2, 1) := by decide +kernel
theorem dX11_found_13 : decode cX11_found 13 = .ok (.ifCond .lt 13, 3) := by decide +kernel
theorem dX11_found_16 : decode cX11_found 16 = .ok (.iload_n 2, 1) := by decide +kernel
theorem dX11_found_17 : decode cX11_found 17 = .ok (.aload_n 0, 1) := by decide +kernel
theorem dX11_found_18 : decode cX11_found 18 = .ok (.getfield 54, 3) := by decide +kernel
theorem dX11_found_21 : decode cX11_found 21 = .ok (.iload_n 1, 1) := by decide +kernel
theorem dX11_found_22 : decode cX11_found 22 = .ok (.iaload, 1) := by decide +kernel
theorem dX11_found_23 : decode cX11_found 23 = .ok (.if_icmp .lt 7, 3) := by decide +kernel
theorem dX11_found_26 : decode cX11_found 26 = .ok (.iconst (-1), 1) := by decide +kernel
theorem dX11_found_27 : decode cX11_found 27 = .ok (.goto 14, 3) := by decide +kernel
theorem dX11_found_30 : decode cX11_found 30 = .ok (.aload_n 0, 1) := by decide +kernel
theorem dX11_found_31 : decode cX11_found 31 = .ok (.getfield 57, 3) := by decide +kernel
theorem dX11_found_34 : decode cX11_found 34 = .ok (.bipush 10, 2) := by decide +kernel
theorem dX11_found_36 : decode cX11_found 36 = .ok (.iload_n 1, 1) := by decide +kernel
theorem dX11_found_37 : decode cX11_found 37 = .ok (.imul, 1) := by decide +kernel
theorem dX11_found_38 : decode cX11_found 38 = .ok (.iload_n 2, 1) := by decide +kernel
theorem dX11_found_39 : decode cX11_found 39 = .ok (.iadd, 1) := by decide +kernel
theorem dX11_found_40 : decode cX11_found 40 = .ok (.iaload, 1) := by decide +kernel
theorem dX11_found_41 : decode cX11_found 41 = .ok (.ireturn, 1) := by decide +kernel
theorem dX11_frames_0 : decode cX11_frames 0 = .ok (.aload_n 0, 1) := by decide +kernel
theorem dX11_frames_1 : decode cX11_frames 1 = .ok (.getfield 136, 3) := by decide +kernel
theorem dX11_frames_4 : decode cX11_frames 4 = .ok (.ireturn, 1) := by decide +kernel
