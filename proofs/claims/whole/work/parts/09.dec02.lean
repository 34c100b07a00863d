theorem dX5_valueOf_217 : decode cX5_valueOf 217 = .ok (.aload_n 0, 1) := by decide +kernel
theorem dX5_valueOf_218 : decode cX5_valueOf 218 = .ok (.getfield 21, 3) := by decide +kernel
theorem dX5_valueOf_221 : decode cX5_valueOf 221 = .ok (.iconst 0, 1) := by decide +kernel
theorem dX5_valueOf_222 : decode cX5_valueOf 222 = .ok (.iaload, 1) := by decide +kernel
theorem dX5_valueOf_223 : decode cX5_valueOf 223 = .ok (.ireturn, 1) := by decide +kernel
theorem dX5_alone_0 : decode cX5_alone 0 = .ok (.iload_n 0, 1) := by decide +kernel
theorem dX5_alone_1 : decode cX5_alone 1 = .ok (.bipush 23, 2) := by decide +kernel
theorem dX5_alone_3 : decode cX5_alone 3 = .ok (.if_icmp .ne 6, 3) := by decide +kernel
theorem dX5_alone_6 : decode cX5_alone 6 = .ok (.iload_n 1, 1) := by decide +kernel
theorem dX5_alone_7 : decode cX5_alone 7 = .ok (.ineg, 1) := by decide +kernel
theorem dX5_alone_8 : decode cX5_alone 8 = .ok (.ireturn, 1) := by decide +kernel
theorem dX5_alone_9 : decode cX5_alone 9 = .ok (.iload_n 1, 1) := by decide +kernel
theorem dX5_alone_10 : decode cX5_alone 10 = .ok (.ifCond .ne 7, 3) := by decide +kernel
theorem dX5_alone_13 : decode cX5_alone 13 = .ok (.iconst 1, 1) := by decide +kernel
theorem dX5_alone_14 : decode cX5_alone 14 = .ok (.goto 4, 3) := by decide +kernel
theorem dX5_alone_17 : decode cX5_alone 17 = .ok (.iconst 0, 1) := by decide +kernel
theorem dX5_alone_18 : decode cX5_alone 18 = .ok (.ireturn, 1) := by decide +kernel
theorem dX5_joined_0 : decode cX5_joined 0 = .ok (.iload_n 0, 1) := by decide +kernel
theorem dX5_joined_1 : decode cX5_joined 1 = .ok (.tableswitch 117 9 19 #[59, 73, 117, 117, 117, 117, 109, 113, 117, 87, 98], 59) := by decide +kernel
theorem dX5_joined_60 : decode cX5_joined 60 = .ok (.iload_n 1, 1) := by decide +kernel
theorem dX5_joined_61 : decode cX5_joined 61 = .ok (.ifCond .ne 7, 3) := by decide +kernel
theorem dX5_joined_64 : decode cX5_joined 64 = .ok (.iload_n 2, 1) := by decide +kernel
theorem dX5_joined_65 : decode cX5_joined 65 = .ok (.ifCond .eq 7, 3) := by decide +kernel
theorem dX5_joined_68 : decode cX5_joined 68 = .ok (.iconst 1, 1) := by decide +kernel
theorem dX5_joined_69 : decode cX5_joined 69 = .ok (.goto 4, 3) := by decide +kernel
theorem dX5_joined_72 : decode cX5_joined 72 = .ok (.iconst 0, 1) := by decide +kernel
theorem dX5_joined_73 : decode cX5_joined 73 = .ok (.ireturn, 1) := by decide +kernel
theorem dX5_joined_74 : decode cX5_joined 74 = .ok (.iload_n 1, 1) := by decide +kernel
theorem dX5_joined_75 : decode cX5_joined 75 = .ok (.ifCond .eq 11, 3) := by decide +kernel
theorem dX5_joined_78 : decode cX5_joined 78 = .ok (.iload_n 2, 1) := by decide +kernel
theorem dX5_joined_79 : decode cX5_joined 79 = .ok (.ifCond .eq 7, 3) := by decide +kernel
theorem dX5_joined_82 : decode cX5_joined 82 = .ok (.iconst 1, 1) := by decide +kernel
theorem dX5_joined_83 : decode cX5_joined 83 = .ok (.goto 4, 3) := by decide +kernel
theorem dX5_joined_86 : decode cX5_joined 86 = .ok (.iconst 0, 1) := by decide +kernel
theorem dX5_joined_87 : decode cX5_joined 87 = .ok (.ireturn, 1) := by decide +kernel
theorem dX5_joined_88 : decode cX5_joined 88 = .ok (.iload_n 1, 1) := by decide +kernel
theorem dX5_joined_89 : decode cX5_joined 89 = .ok (.iload_n 2, 1) := by decide +kernel
theorem dX5_joined_90 : decode cX5_joined 90 = .ok (.if_icmp .ge 7, 3) := by decide +kernel
theorem dX5_joined_93 : decode cX5_joined 93 = .ok (.iconst 1, 1) := by decide +kernel
theorem dX5_joined_94 : decode cX5_joined 94 = .ok (.goto 4, 3) := by decide +kernel
theorem dX5_joined_97 : decode cX5_joined 97 = .ok (.iconst 0, 1) := by decide +kernel
theorem dX5_joined_98 : decode cX5_joined 98 = .ok (.ireturn, 1) := by decide +kernel
theorem dX5_joined_99 : decode cX5_joined 99 = .ok (.iload_n 1, 1) := by decide +kernel
theorem dX5_joined_100 : decode cX5_joined 100 = .ok (.iload_n 2, 1) := by decide +kernel
theorem dX5_joined_101 : decode cX5_joined 101 = .ok (.if_icmp .ne 7, 3) := by decide +kernel
theorem dX5_joined_104 : decode cX5_joined 104 = .ok (.iconst 1, 1) := by decide +kernel
theorem dX5_joined_105 : decode cX5_joined 105 = .ok (.goto 4, 3) := by decide +kernel
theorem dX5_joined_108 : decode cX5_joined 108 = .ok (.iconst 0, 1) := by decide +kernel
theorem dX5_joined_109 : decode cX5_joined 109 = .ok (.ireturn, 1) := by decide +kernel
theorem dX5_joined_110 : decode cX5_joined 110 = .ok (.iload_n 1, 1) := by decide +kernel
theorem dX5_joined_111 : decode cX5_joined 111 = .ok (.iload_n 2, 1) := by decide +kernel
theorem dX5_joined_112 : decode cX5_joined 112 = .ok (.iadd, 1) := by decide +kernel
theorem dX5_joined_113 : decode cX5_joined 113 = .ok (.ireturn, 1) := by decide +kernel
theorem dX5_joined_114 : decode cX5_joined 114 = .ok (.iload_n 1, 1) := by decide +kernel
theorem dX5_joined_115 : decode cX5_joined 115 = .ok (.iload_n 2, 1) := by decide +kernel
theorem dX5_joined_116 : decode cX5_joined 116 = .ok (.isub, 1) := by decide +kernel
theorem dX5_joined_117 : decode cX5_joined 117 = .ok (.ireturn, 1) := by decide +kernel
theorem dX5_joined_118 : decode cX5_joined 118 = .ok (.iload_n 1, 1) := by decide +kernel
theorem dX5_joined_119 : decode cX5_joined 119 = .ok (.iload_n 2, 1) := by decide +kernel
theorem dX5_joined_120 : decode cX5_joined 120 = .ok (.imul, 1) := by decide +kernel
theorem dX5_joined_121 : decode cX5_joined 121 = .ok (.ireturn, 1) := by decide +kernel
theorem dX6_init_0 : decode cX6_init 0 = .ok (.aload_n 0, 1) := by decide +kernel
theorem dX6_init_1 : decode cX6_init 1 = .ok (.invokespecial 1, 3) := by decide +kernel
theorem dX6_init_4 : decode cX6_init 4 = .ok (.aload_n 0, 1) := by decide +kernel
theorem dX6_init_5 : decode cX6_init 5 = .ok (.new 7, 3) := by decide +kernel
theorem dX6_init_8 : decode cX6_init 8 = .ok (.dup, 1) := by decide +kernel
theorem dX6_init_9 : decode cX6_init 9 = .ok (.invokespecial 9, 3) := by decide +kernel
theorem dX6_init_12 : decode cX6_init 12 = .ok (.putfield 10, 3) := by decide +kernel
theorem dX6_init_15 : decode cX6_init 15 = .ok (.aload_n 0, 1) := by decide +kernel
theorem dX6_init_16 : decode cX6_init 16 = .ok (.new 16, 3) := by decide +kernel
theorem dX6_init_19 : decode cX6_init 19 = .ok (.dup, 1) := by decide +kernel
theorem dX6_init_20 : decode cX6_init 20 = .ok (.invokespecial 18, 3) := by decide +kernel
theorem dX6_init_23 : decode cX6_init 23 = .ok (.putfield 19, 3) := by decide +kernel
theorem dX6_init_26 : decode cX6_init 26 = .ok (.aload_n 0, 1) := by decide +kernel
theorem dX6_init_27 : decode cX6_init 27 = .ok (.new 23, 3) := by decide +kernel
theorem dX6_init_30 : decode cX6_init 30 = .ok (.dup, 1) := by decide +kernel
theorem dX6_init_31 : decode cX6_init 31 = .ok (.aload_n 0, 1) := by decide +kernel
theorem dX6_init_32 : decode cX6_init 32 = .ok (.getfield 10, 3) := by decide +kernel
theorem dX6_init_35 : decode cX6_init 35 = .ok (.invokespecial 25, 3) := by decide +kernel
theorem dX6_init_38 : decode cX6_init 38 = .ok (.putfield 28, 3) := by decide +kernel
theorem dX6_init_41 : decode cX6_init 41 = .ok (.aload_n 0, 1) := by decide +kernel
theorem dX6_init_42 : decode cX6_init 42 = .ok (.new 23, 3) := by decide +kernel
theorem dX6_init_45 : decode cX6_init 45 = .ok (.dup, 1) := by decide +kernel
theorem dX6_init_46 : decode cX6_init 46 = .ok (.aload_n 0, 1) := by decide +kernel
theorem dX6_init_47 : decode cX6_init 47 = .ok (.getfield 10, 3) := by decide +kernel
theorem dX6_init_50 : decode cX6_init 50 = .ok (.invokespecial 25, 3) := by decide +kernel
theorem dX6_init_53 : decode cX6_init 53 = .ok (.putfield 32, 3) := by decide +kernel
theorem dX6_init_56 : decode cX6_init 56 = .ok (.aload_n 0, 1) := by decide +kernel
theorem dX6_init_57 : decode cX6_init 57 = .ok (.new 23, 3) := by decide +kernel
theorem dX6_init_60 : decode cX6_init 60 = .ok (.dup, 1) := by decide +kernel
theorem dX6_init_61 : decode cX6_init 61 = .ok (.aload_n 0, 1) := by decide +kernel
theorem dX6_init_62 : decode cX6_init 62 = .ok (.getfield 10, 3) := by decide +kernel
theorem dX6_init_65 : decode cX6_init 65 = .ok (.invokespecial 25, 3) := by decide +kernel
theorem dX6_init_68 : decode cX6_init 68 = .ok (.putfield 35, 3) := by decide +kernel
theorem dX6_init_71 : decode cX6_init 71 = .ok (.aload_n 0, 1) := by decide +kernel
theorem dX6_init_72 : decode cX6_init 72 = .ok (.new 38, 3) := by decide +kernel
theorem dX6_init_75 : decode cX6_init 75 = .ok (.dup, 1) := by decide +kernel
theorem dX6_init_76 : decode cX6_init 76 = .ok (.invokespecial 40, 3) := by decide +kernel
theorem dX6_init_79 : decode cX6_init 79 = .ok (.putfield 41, 3) := by decide +kernel
theorem dX6_init_82 : decode cX6_init 82 = .ok (.aload_n 0, 1) := by decide +kernel
theorem dX6_init_83 : decode cX6_init 83 = .ok (.iconst 4, 1) := by decide +kernel
theorem dX6_init_84 : decode cX6_init 84 = .ok (.anewarray 45, 3) := by decide +kernel
theorem dX6_init_87 : decode cX6_init 87 = .ok (.putfield 47, 3) := by decide +kernel
theorem dX6_init_90 : decode cX6_init 90 = .ok (.iconst 0, 1) := by decide +kernel
theorem dX6_init_91 : decode cX6_init 91 = .ok (.istore_n 1, 1) := by decide +kernel
theorem dX6_init_92 : decode cX6_init 92 = .ok (.iload_n 1, 1) := by decide +kernel
theorem dX6_init_93 : decode cX6_init 93 = .ok (.iconst 4, 1) := by decide +kernel
theorem dX6_init_94 : decode cX6_init 94 = .ok (.if_icmp .ge 22, 3) := by decide +kernel
theorem dX6_init_97 : decode cX6_init 97 = .ok (.aload_n 0, 1) := by decide +kernel
theorem dX6_init_98 : decode cX6_init 98 = .ok (.getfield 47, 3) := by decide +kernel
theorem dX6_init_101 : decode cX6_init 101 = .ok (.iload_n 1, 1) := by decide +kernel
theorem dX6_init_102 : decode cX6_init 102 = .ok (.new 45, 3) := by decide +kernel
theorem dX6_init_105 : decode cX6_init 105 = .ok (.dup, 1) := by decide +kernel
theorem dX6_init_106 : decode cX6_init 106 = .ok (.invokespecial 51, 3) := by decide +kernel
theorem dX6_init_109 : decode cX6_init 109 = .ok (.aastore, 1) := by decide +kernel
theorem dX6_init_110 : decode cX6_init 110 = .ok (.iinc 1 1, 3) := by decide +kernel
theorem dX6_init_113 : decode cX6_init 113 = .ok (.goto (-21), 3) := by decide +kernel
theorem dX6_init_116 : decode cX6_init 116 = .ok (.aload_n 0, 1) := by decide +kernel
theorem dX6_init_117 : decode cX6_init 117 = .ok (.iconst 0, 1) := by decide +kernel
theorem dX6_init_118 : decode cX6_init 118 = .ok (.putfield 52, 3) := by decide +kernel
theorem dX6_init_121 : decode cX6_init 121 = .ok (.return_, 1) := by decide +kernel
theorem dX6_set_0 : decode cX6_set 0 = .ok (.iload_n 1, 1) := by decide +kernel
theorem dX6_set_1 : decode cX6_set 1 = .ok (.iconst 0, 1) := by decide +kernel
theorem dX6_set_2 : decode cX6_set 2 = .ok (.iconst 4, 1) := by decide +kernel
theorem dX6_set_3 : decode cX6_set 3 = .ok (.invokestatic 56, 3) := by decide +kernel
theorem dX6_set_6 : decode cX6_set 6 = .ok (.ifCond .ne 6, 3) := by decide +kernel
theorem dX6_set_9 : decode cX6_set 9 = .ok (.bipush (-2), 2) := by decide +kernel
theorem dX6_set_11 : decode cX6_set 11 = .ok (.ireturn, 1) := by decide +kernel
theorem dX6_set_12 : decode cX6_set 12 = .ok (.iload_n 1, 1) := by decide +kernel
theorem dX6_set_13 : decode cX6_set 13 = .ok (.ifCond .eq 14, 3) := by decide +kernel
theorem dX6_set_16 : decode cX6_set 16 = .ok (.aload_n 0, 1) := by decide +kernel
theorem dX6_set_17 : decode cX6_set 17 = .ok (.iload_n 2, 1) := by decide +kernel
theorem dX6_set_18 : decode cX6_set 18 = .ok (.invokevirtual 60, 3) := by decide +kernel
theorem dX6_set_21 : decode cX6_set 21 = .ok (.ifCond .ne 6, 3) := by decide +kernel
theorem dX6_set_24 : decode cX6_set 24 = .ok (.bipush (-2), 2) := by decide +kernel
theorem dX6_set_26 : decode cX6_set 26 = .ok (.ireturn, 1) := by decide +kernel
theorem dX6_set_27 : decode cX6_set 27 = .ok (.iload_n 3, 1) := by decide +kernel
theorem dX6_set_28 : decode cX6_set 28 = .ok (.iconst 0, 1) := by decide +kernel
theorem dX6_set_29 : decode cX6_set 29 = .ok (.getstatic 64, 3) := by decide +kernel
theorem dX6_set_32 : decode cX6_set 32 = .ok (.iload_n 1, 1) := by decide +kernel
theorem dX6_set_33 : decode cX6_set 33 = .ok (.iaload, 1) := by decide +kernel
theorem dX6_set_34 : decode cX6_set 34 = .ok (.invokestatic 56, 3) := by decide +kernel
theorem dX6_set_37 : decode cX6_set 37 = .ok (.ifCond .ne 6, 3) := by decide +kernel
theorem dX6_set_40 : decode cX6_set 40 = .ok (.bipush (-2), 2) := by decide +kernel
theorem dX6_set_42 : decode cX6_set 42 = .ok (.ireturn, 1) := by decide +kernel
theorem dX6_set_43 : decode cX6_set 43 = .ok (.iload_n 1, 1) := by decide +kernel
theorem dX6_set_44 : decode cX6_set 44 = .ok (.ifCond .ne 23, 3) := by decide +kernel
theorem dX6_set_47 : decode cX6_set 47 = .ok (.aload_n 0, 1) := by decide +kernel
theorem dX6_set_48 : decode cX6_set 48 = .ok (.getfield 28, 3) := by decide +kernel
theorem dX6_set_51 : decode cX6_set 51 = .ok (.getfield 68, 3) := by decide +kernel
theorem dX6_set_54 : decode cX6_set 54 = .ok (.istore 4, 2) := by decide +kernel
theorem dX6_set_56 : decode cX6_set 56 = .ok (.aload_n 0, 1) := by decide +kernel
theorem dX6_set_57 : decode cX6_set 57 = .ok (.getfield 28, 3) := by decide +kernel
theorem dX6_set_60 : decode cX6_set 60 = .ok (.iload_n 3, 1) := by decide +kernel
theorem dX6_set_61 : decode cX6_set 61 = .ok (.putfield 68, 3) := by decide +kernel
theorem dX6_set_64 : decode cX6_set 64 = .ok (.iload 4, 2) := by decide +kernel
theorem dX6_set_66 : decode cX6_set 66 = .ok (.ireturn, 1) := by decide +kernel
theorem dX6_set_67 : decode cX6_set 67 = .ok (.aload_n 0, 1) := by decide +kernel
theorem dX6_set_68 : decode cX6_set 68 = .ok (.getfield 28, 3) := by decide +kernel
theorem dX6_set_71 : decode cX6_set 71 = .ok (.iload_n 1, 1) := by decide +kernel
theorem dX6_set_72 : decode cX6_set 72 = .ok (.invokevirtual 72, 3) := by decide +kernel
theorem dX6_set_75 : decode cX6_set 75 = .ok (.astore 4, 2) := by decide +kernel
theorem dX6_set_77 : decode cX6_set 77 = .ok (.aload 4, 2) := by decide +kernel
theorem dX6_set_79 : decode cX6_set 79 = .ok (.iload_n 2, 1) := by decide +kernel
theorem dX6_set_80 : decode cX6_set 80 = .ok (.iaload, 1) := by decide +kernel
theorem dX6_set_81 : decode cX6_set 81 = .ok (.istore 5, 2) := by decide +kernel
theorem dX6_set_83 : decode cX6_set 83 = .ok (.aload 4, 2) := by decide +kernel
theorem dX6_set_85 : decode cX6_set 85 = .ok (.iload_n 2, 1) := by decide +kernel
theorem dX6_set_86 : decode cX6_set 86 = .ok (.iload_n 3, 1) := by decide +kernel
theorem dX6_set_87 : decode cX6_set 87 = .ok (.iastore, 1) := by decide +kernel
theorem dX6_set_88 : decode cX6_set 88 = .ok (.iload 5, 2) := by decide +kernel
theorem dX6_set_90 : decode cX6_set 90 = .ok (.ireturn, 1) := by decide +kernel
theorem dX6_piece_0 : decode cX6_piece 0 = .ok (.aload_n 0, 1) := by decide +kernel
theorem dX6_piece_1 : decode cX6_piece 1 = .ok (.getfield 28, 3) := by decide +kernel
theorem dX6_piece_4 : decode cX6_piece 4 = .ok (.iload_n 1, 1) := by decide +kernel
theorem dX6_piece_5 : decode cX6_piece 5 = .ok (.iload_n 2, 1) := by decide +kernel
theorem dX6_piece_6 : decode cX6_piece 6 = .ok (.iload_n 3, 1) := by decide +kernel
theorem dX6_piece_7 : decode cX6_piece 7 = .ok (.iload 4, 2) := by decide +kernel
theorem dX6_piece_9 : decode cX6_piece 9 = .ok (.invokevirtual 76, 3) := by decide +kernel
theorem dX6_piece_12 : decode cX6_piece 12 = .ok (.ireturn, 1) := by decide +kernel
theorem dX6_told_0 : decode cX6_told 0 = .ok (.iload_n 2, 1) := by decide +kernel
theorem dX6_told_1 : decode cX6_told 1 = .ok (.ifCond .ne 11, 3) := by decide +kernel
theorem dX6_told_4 : decode cX6_told 4 = .ok (.aload_n 0, 1) := by decide +kernel
theorem dX6_told_5 : decode cX6_told 5 = .ok (.getfield 28, 3) := by decide +kernel
theorem dX6_told_8 : decode cX6_told 8 = .ok (.getfield 68, 3) := by decide +kernel
theorem dX6_told_11 : decode cX6_told 11 = .ok (.ireturn, 1) := by decide +kernel
theorem dX6_told_12 : decode cX6_told 12 = .ok (.iload_n 2, 1) := by decide +kernel
theorem dX6_told_13 : decode cX6_told 13 = .ok (.bipush 8, 2) := by decide +kernel
theorem dX6_told_15 : decode cX6_told 15 = .ok (.if_icmp .ne 27, 3) := by decide +kernel
theorem dX6_told_18 : decode cX6_told 18 = .ok (.iload_n 1, 1) := by decide +kernel
theorem dX6_told_19 : decode cX6_told 19 = .ok (.iconst 0, 1) := by decide +kernel
theorem dX6_told_20 : decode cX6_told 20 = .ok (.bipush 11, 2) := by decide +kernel
theorem dX6_told_22 : decode cX6_told 22 = .ok (.invokestatic 56, 3) := by decide +kernel
theorem dX6_told_25 : decode cX6_told 25 = .ok (.ifCond .eq 14, 3) := by decide +kernel
theorem dX6_told_28 : decode cX6_told 28 = .ok (.aload_n 0, 1) := by decide +kernel
theorem dX6_told_29 : decode cX6_told 29 = .ok (.getfield 28, 3) := by decide +kernel
theorem dX6_told_32 : decode cX6_told 32 = .ok (.iload_n 1, 1) := by decide +kernel
theorem dX6_told_33 : decode cX6_told 33 = .ok (.invokevirtual 80, 3) := by decide +kernel
theorem dX6_told_36 : decode cX6_told 36 = .ok (.goto 5, 3) := by decide +kernel
theorem dX6_told_39 : decode cX6_told 39 = .ok (.bipush (-2), 2) := by decide +kernel
theorem dX6_told_41 : decode cX6_told 41 = .ok (.ireturn, 1) := by decide +kernel
theorem dX6_told_42 : decode cX6_told 42 = .ok (.iload_n 2, 1) := by decide +kernel
theorem dX6_told_43 : decode cX6_told 43 = .ok (.iconst 1, 1) := by decide +kernel
theorem dX6_told_44 : decode cX6_told 44 = .ok (.bipush 7, 2) := by decide +kernel
theorem dX6_told_46 : decode cX6_told 46 = .ok (.invokestatic 56, 3) := by decide +kernel
theorem dX6_told_49 : decode cX6_told 49 = .ok (.ifCond .eq 11, 3) := by decide +kernel
theorem dX6_told_52 : decode cX6_told 52 = .ok (.aload_n 0, 1) := by decide +kernel
theorem dX6_told_53 : decode cX6_told 53 = .ok (.iload_n 1, 1) := by decide +kernel
theorem dX6_told_54 : decode cX6_told 54 = .ok (.invokevirtual 60, 3) := by decide +kernel
theorem dX6_told_57 : decode cX6_told 57 = .ok (.ifCond .ne 6, 3) := by decide +kernel
theorem dX6_told_60 : decode cX6_told 60 = .ok (.bipush (-2), 2) := by decide +kernel
theorem dX6_told_62 : decode cX6_told 62 = .ok (.ireturn, 1) := by decide +kernel
theorem dX6_told_63 : decode cX6_told 63 = .ok (.iload_n 2, 1) := by decide +kernel
theorem dX6_told_64 : decode cX6_told 64 = .ok (.bipush 6, 2) := by decide +kernel
theorem dX6_told_66 : decode cX6_told 66 = .ok (.if_icmp .ne 12, 3) := by decide +kernel
theorem dX6_told_69 : decode cX6_told 69 = .ok (.aload_n 0, 1) := by decide +kernel
theorem dX6_told_70 : decode cX6_told 70 = .ok (.getfield 28, 3) := by decide +kernel
theorem dX6_told_73 : decode cX6_told 73 = .ok (.iload_n 1, 1) := by decide +kernel
theorem dX6_told_74 : decode cX6_told 74 = .ok (.invokevirtual 84, 3) := by decide +kernel
theorem dX6_told_77 : decode cX6_told 77 = .ok (.ireturn, 1) := by decide +kernel
theorem dX6_told_78 : decode cX6_told 78 = .ok (.iload_n 2, 1) := by decide +kernel
theorem dX6_told_79 : decode cX6_told 79 = .ok (.bipush 7, 2) := by decide +kernel
theorem dX6_told_81 : decode cX6_told 81 = .ok (.if_icmp .ne 12, 3) := by decide +kernel
theorem dX6_told_84 : decode cX6_told 84 = .ok (.aload_n 0, 1) := by decide +kernel
theorem dX6_told_85 : decode cX6_told 85 = .ok (.getfield 28, 3) := by decide +kernel
theorem dX6_told_88 : decode cX6_told 88 = .ok (.iload_n 1, 1) := by decide +kernel
theorem dX6_told_89 : decode cX6_told 89 = .ok (.invokevirtual 87, 3) := by decide +kernel
theorem dX6_told_92 : decode cX6_told 92 = .ok (.ireturn, 1) := by decide +kernel
theorem dX6_told_93 : decode cX6_told 93 = .ok (.aload_n 0, 1) := by decide +kernel
theorem dX6_told_94 : decode cX6_told 94 = .ok (.getfield 28, 3) := by decide +kernel
theorem dX6_told_97 : decode cX6_told 97 = .ok (.iload_n 2, 1) := by decide +kernel
theorem dX6_told_98 : decode cX6_told 98 = .ok (.invokevirtual 72, 3) := by decide +kernel
theorem dX6_told_101 : decode cX6_told 101 = .ok (.iload_n 1, 1) := by decide +kernel
theorem dX6_told_102 : decode cX6_told 102 = .ok (.iaload, 1) := by decide +kernel
theorem dX6_told_103 : decode cX6_told 103 = .ok (.ireturn, 1) := by decide +kernel
theorem dX6_carried_0 : decode cX6_carried 0 = .ok (.aload_n 0, 1) := by decide +kernel
theorem dX6_carried_1 : decode cX6_carried 1 = .ok (.iload_n 1, 1) := by decide +kernel
theorem dX6_carried_2 : decode cX6_carried 2 = .ok (.invokevirtual 60, 3) := by decide +kernel
theorem dX6_carried_5 : decode cX6_carried 5 = .ok (.ifCond .eq 14, 3) := by decide +kernel
theorem dX6_carried_8 : decode cX6_carried 8 = .ok (.aload_n 0, 1) := by decide +kernel
theorem dX6_carried_9 : decode cX6_carried 9 = .ok (.getfield 28, 3) := by decide +kernel
theorem dX6_carried_12 : decode cX6_carried 12 = .ok (.iload_n 1, 1) := by decide +kernel
theorem dX6_carried_13 : decode cX6_carried 13 = .ok (.invokevirtual 90, 3) := by decide +kernel
theorem dX6_carried_16 : decode cX6_carried 16 = .ok (.goto 6, 3) := by decide +kernel
theorem dX6_carried_19 : decode cX6_carried 19 = .ok (.sipush (-1000), 3) := by decide +kernel
theorem dX6_carried_22 : decode cX6_carried 22 = .ok (.ireturn, 1) := by decide +kernel
theorem dX6_feed_0 : decode cX6_feed 0 = .ok (.iload_n 1, 1) := by decide +kernel
theorem dX6_feed_1 : decode cX6_feed 1 = .ok (.iconst 0, 1) := by decide +kernel
theorem dX6_feed_2 : decode cX6_feed 2 = .ok (.sipush 255, 3) := by decide +kernel
theorem dX6_feed_5 : decode cX6_feed 5 = .ok (.invokestatic 56, 3) := by decide +kernel
theorem dX6_feed_8 : decode cX6_feed 8 = .ok (.ifCond .ne 6, 3) := by decide +kernel
theorem dX6_feed_11 : decode cX6_feed 11 = .ok (.bipush (-2), 2) := by decide +kernel
theorem dX6_feed_13 : decode cX6_feed 13 = .ok (.ireturn, 1) := by decide +kernel
theorem dX6_feed_14 : decode cX6_feed 14 = .ok (.aload_n 0, 1) := by decide +kernel
theorem dX6_feed_15 : decode cX6_feed 15 = .ok (.getfield 19, 3) := by decide +kernel
theorem dX6_feed_18 : decode cX6_feed 18 = .ok (.iload_n 1, 1) := by decide +kernel
theorem dX6_feed_19 : decode cX6_feed 19 = .ok (.invokevirtual 93, 3) := by decide +kernel
theorem dX6_feed_22 : decode cX6_feed 22 = .ok (.ifCond .eq 13, 3) := by decide +kernel
theorem dX6_feed_25 : decode cX6_feed 25 = .ok (.aload_n 0, 1) := by decide +kernel
theorem dX6_feed_26 : decode cX6_feed 26 = .ok (.getfield 19, 3) := by decide +kernel
theorem dX6_feed_29 : decode cX6_feed 29 = .ok (.getfield 96, 3) := by decide +kernel
theorem dX6_feed_32 : decode cX6_feed 32 = .ok (.goto 5, 3) := by decide +kernel
theorem dX6_feed_35 : decode cX6_feed 35 = .ok (.bipush (-4), 2) := by decide +kernel
theorem dX6_feed_37 : decode cX6_feed 37 = .ok (.ireturn, 1) := by decide +kernel
theorem dX6_text_0 : decode cX6_text 0 = .ok (.aload_n 0, 1) := by decide +kernel
theorem dX6_text_1 : decode cX6_text 1 = .ok (.getfield 10, 3) := by decide +kernel
theorem dX6_text_4 : decode cX6_text 4 = .ok (.getfield 99, 3) := by decide +kernel
theorem dX6_text_7 : decode cX6_text 7 = .ok (.bipush 6, 2) := by decide +kernel
theorem dX6_text_9 : decode cX6_text 9 = .ok (.if_icmp .lt 6, 3) := by decide +kernel
theorem dX6_text_12 : decode cX6_text 12 = .ok (.bipush (-4), 2) := by decide +kernel
theorem dX6_text_14 : decode cX6_text 14 = .ok (.ireturn, 1) := by decide +kernel
theorem dX6_text_15 : decode cX6_text 15 = .ok (.aload_n 0, 1) := by decide +kernel
theorem dX6_text_16 : decode cX6_text 16 = .ok (.getfield 19, 3) := by decide +kernel
theorem dX6_text_19 : decode cX6_text 19 = .ok (.invokevirtual 100, 3) := by decide +kernel
theorem dX6_text_22 : decode cX6_text 22 = .ok (.astore_n 1, 1) := by decide +kernel
theorem dX6_text_23 : decode cX6_text 23 = .ok (.aload_n 0, 1) := by decide +kernel
theorem dX6_text_24 : decode cX6_text 24 = .ok (.getfield 19, 3) := by decide +kernel
theorem dX6_text_27 : decode cX6_text 27 = .ok (.iconst 0, 1) := by decide +kernel
theorem dX6_text_28 : decode cX6_text 28 = .ok (.putfield 96, 3) := by decide +kernel
theorem dX6_text_31 : decode cX6_text 31 = .ok (.aload_n 1, 1) := by decide +kernel
theorem dX6_text_32 : decode cX6_text 32 = .ok (.ifnonnull 14, 3) := by decide +kernel
theorem dX6_text_35 : decode cX6_text 35 = .ok (.bipush (-100), 2) := by decide +kernel
theorem dX6_text_37 : decode cX6_text 37 = .ok (.aload_n 0, 1) := by decide +kernel
theorem dX6_text_38 : decode cX6_text 38 = .ok (.getfield 19, 3) := by decide +kernel
theorem dX6_text_41 : decode cX6_text 41 = .ok (.getfield 104, 3) := by decide +kernel
theorem dX6_text_44 : decode cX6_text 44 = .ok (.isub, 1) := by decide +kernel
theorem dX6_text_45 : decode cX6_text 45 = .ok (.ireturn, 1) := by decide +kernel
theorem dX6_text_46 : decode cX6_text 46 = .ok (.aload_n 0, 1) := by decide +kernel
theorem dX6_text_47 : decode cX6_text 47 = .ok (.getfield 10, 3) := by decide +kernel
theorem dX6_text_50 : decode cX6_text 50 = .ok (.aload_n 1, 1) := by decide +kernel
theorem dX6_text_51 : decode cX6_text 51 = .ok (.invokevirtual 107, 3) := by decide +kernel
theorem dX6_text_54 : decode cX6_text 54 = .ok (.ireturn, 1) := by decide +kernel
theorem dX6_force_0 : decode cX6_force 0 = .ok (.iload_n 1, 1) := by decide +kernel
theorem dX6_force_1 : decode cX6_force 1 = .ok (.iconst 0, 1) := by decide +kernel
theorem dX6_force_2 : decode cX6_force 2 = .ok (.aload_n 0, 1) := by decide +kernel
theorem dX6_force_3 : decode cX6_force 3 = .ok (.getfield 10, 3) := by decide +kernel
theorem dX6_force_6 : decode cX6_force 6 = .ok (.getfield 99, 3) := by decide +kernel
theorem dX6_force_9 : decode cX6_force 9 = .ok (.iconst 1, 1) := by decide +kernel
theorem dX6_force_10 : decode cX6_force 10 = .ok (.isub, 1) := by decide +kernel
theorem dX6_force_11 : decode cX6_force 11 = .ok (.invokestatic 56, 3) := by decide +kernel
theorem dX6_force_14 : decode cX6_force 14 = .ok (.ifCond .ne 6, 3) := by decide +kernel
theorem dX6_force_17 : decode cX6_force 17 = .ok (.bipush (-2), 2) := by decide +kernel
theorem dX6_force_19 : decode cX6_force 19 = .ok (.ireturn, 1) := by decide +kernel
theorem dX6_force_20 : decode cX6_force 20 = .ok (.aload_n 0, 1) := by decide +kernel
theorem dX6_force_21 : decode cX6_force 21 = .ok (.getfield 28, 3) := by decide +kernel
theorem dX6_force_24 : decode cX6_force 24 = .ok (.getfield 110, 3) := by decide +kernel
theorem dX6_force_27 : decode cX6_force 27 = .ok (.istore_n 2, 1) := by decide +kernel
theorem dX6_force_28 : decode cX6_force 28 = .ok (.aload_n 0, 1) := by decide +kernel
theorem dX6_force_29 : decode cX6_force 29 = .ok (.getfield 28, 3) := by decide +kernel
theorem dX6_force_32 : decode cX6_force 32 = .ok (.iload_n 1, 1) := by decide +kernel
theorem dX6_force_33 : decode cX6_force 33 = .ok (.putfield 110, 3) := by decide +kernel
theorem dX6_force_36 : decode cX6_force 36 = .ok (.iload_n 2, 1) := by decide +kernel
theorem dX6_force_37 : decode cX6_force 37 = .ok (.ireturn, 1) := by decide +kernel
theorem dX6_tide_0 : decode cX6_tide 0 = .ok (.aload_n 0, 1) := by decide +kernel
theorem dX6_tide_1 : decode cX6_tide 1 = .ok (.getfield 28, 3) := by decide +kernel
theorem dX6_tide_4 : decode cX6_tide 4 = .ok (.getfield 68, 3) := by decide +kernel
theorem dX6_tide_7 : decode cX6_tide 7 = .ok (.sipush 999, 3) := by decide +kernel
theorem dX6_tide_10 : decode cX6_tide 10 = .ok (.if_icmp .lt 6, 3) := by decide +kernel
theorem dX6_tide_13 : decode cX6_tide 13 = .ok (.bipush (-3), 2) := by decide +kernel
theorem dX6_tide_15 : decode cX6_tide 15 = .ok (.ireturn, 1) := by decide +kernel
theorem dX6_tide_16 : decode cX6_tide 16 = .ok (.aload_n 0, 1) := by decide +kernel
theorem dX6_tide_17 : decode cX6_tide 17 = .ok (.getfield 28, 3) := by decide +kernel
theorem dX6_tide_20 : decode cX6_tide 20 = .ok (.invokevirtual 113, 3) := by decide +kernel
theorem dX6_tide_23 : decode cX6_tide 23 = .ok (.aload_n 0, 1) := by decide +kernel
theorem dX6_tide_24 : decode cX6_tide 24 = .ok (.getfield 28, 3) := by decide +kernel
theorem dX6_tide_27 : decode cX6_tide 27 = .ok (.invokevirtual 116, 3) := by decide +kernel
theorem dX6_tide_30 : decode cX6_tide 30 = .ok (.ireturn, 1) := by decide +kernel
theorem dX6_run_0 : decode cX6_run 0 = .ok (.aload_n 0, 1) := by decide +kernel
theorem dX6_run_1 : decode cX6_run 1 = .ok (.iload_n 1, 1) := by decide +kernel
theorem dX6_run_2 : decode cX6_run 2 = .ok (.invokevirtual 60, 3) := by decide +kernel
theorem dX6_run_5 : decode cX6_run 5 = .ok (.ifCond .eq 22, 3) := by decide +kernel
theorem dX6_run_8 : decode cX6_run 8 = .ok (.iload_n 2, 1) := by decide +kernel
theorem dX6_run_9 : decode cX6_run 9 = .ok (.iconst 0, 1) := by decide +kernel
theorem dX6_run_10 : decode cX6_run 10 = .ok (.bipush 60, 2) := by decide +kernel
theorem dX6_run_12 : decode cX6_run 12 = .ok (.invokestatic 56, 3) := by decide +kernel
theorem dX6_run_15 : decode cX6_run 15 = .ok (.ifCond .eq 12, 3) := by decide +kernel
theorem dX6_run_18 : decode cX6_run 18 = .ok (.iload_n 3, 1) := by decide +kernel
theorem dX6_run_19 : decode cX6_run 19 = .ok (.iconst 0, 1) := by decide +kernel
theorem dX6_run_20 : decode cX6_run 20 = .ok (.iconst 4, 1) := by decide +kernel
theorem dX6_run_21 : decode cX6_run 21 = .ok (.invokestatic 56, 3) := by decide +kernel
theorem dX6_run_24 : decode cX6_run 24 = .ok (.ifCond .ne 6, 3) := by decide +kernel
theorem dX6_run_27 : decode cX6_run 27 = .ok (.bipush (-2), 2) := by decide +kernel
theorem dX6_run_29 : decode cX6_run 29 = .ok (.ireturn, 1) := by decide +kernel
theorem dX6_run_30 : decode cX6_run 30 = .ok (.aload_n 0, 1) := by decide +kernel
theorem dX6_run_31 : decode cX6_run 31 = .ok (.getfield 32, 3) := by decide +kernel
theorem dX6_run_34 : decode cX6_run 34 = .ok (.aload_n 0, 1) := by decide +kernel
theorem dX6_run_35 : decode cX6_run 35 = .ok (.getfield 28, 3) := by decide +kernel
theorem dX6_run_38 : decode cX6_run 38 = .ok (.invokevirtual 120, 3) := by decide +kernel
theorem dX6_run_41 : decode cX6_run 41 = .ok (.iconst 0, 1) := by decide +kernel
theorem dX6_run_42 : decode cX6_run 42 = .ok (.istore 4, 2) := by decide +kernel
theorem dX6_run_44 : decode cX6_run 44 = .ok (.iload 4, 2) := by decide +kernel
theorem dX6_run_46 : decode cX6_run 46 = .ok (.iload_n 2, 1) := by decide +kernel
theorem dX6_run_47 : decode cX6_run 47 = .ok (.if_icmp .ge 16, 3) := by decide +kernel
theorem dX6_run_50 : decode cX6_run 50 = .ok (.aload_n 0, 1) := by decide +kernel
theorem dX6_run_51 : decode cX6_run 51 = .ok (.getfield 32, 3) := by decide +kernel
theorem dX6_run_54 : decode cX6_run 54 = .ok (.invokevirtual 113, 3) := by decide +kernel
theorem dX6_run_57 : decode cX6_run 57 = .ok (.iinc 4 1, 3) := by decide +kernel
theorem dX6_run_60 : decode cX6_run 60 = .ok (.goto (-16), 3) := by decide +kernel
theorem dX6_run_63 : decode cX6_run 63 = .ok (.iload_n 3, 1) := by decide +kernel
theorem dX6_run_64 : decode cX6_run 64 = .ok (.tableswitch 68 0 3 #[32, 42, 52, 60], 32) := by decide +kernel
theorem dX6_run_96 : decode cX6_run 96 = .ok (.aload_n 0, 1) := by decide +kernel
theorem dX6_run_97 : decode cX6_run 97 = .ok (.getfield 32, 3) := by decide +kernel
theorem dX6_run_100 : decode cX6_run 100 = .ok (.getfield 124, 3) := by decide +kernel
theorem dX6_run_103 : decode cX6_run 103 = .ok (.iload_n 1, 1) := by decide +kernel
theorem dX6_run_104 : decode cX6_run 104 = .ok (.iaload, 1) := by decide +kernel
theorem dX6_run_105 : decode cX6_run 105 = .ok (.ireturn, 1) := by decide +kernel
theorem dX6_run_106 : decode cX6_run 106 = .ok (.aload_n 0, 1) := by decide +kernel
theorem dX6_run_107 : decode cX6_run 107 = .ok (.getfield 32, 3) := by decide +kernel
theorem dX6_run_110 : decode cX6_run 110 = .ok (.getfield 127, 3) := by decide +kernel
theorem dX6_run_113 : decode cX6_run 113 = .ok (.iload_n 1, 1) := by decide +kernel
theorem dX6_run_114 : decode cX6_run 114 = .ok (.iaload, 1) := by decide +kernel
theorem dX6_run_115 : decode cX6_run 115 = .ok (.ireturn, 1) := by decide +kernel
theorem dX6_run_116 : decode cX6_run 116 = .ok (.aload_n 0, 1) := by decide +kernel
theorem dX6_run_117 : decode cX6_run 117 = .ok (.getfield 32, 3) := by decide +kernel
theorem dX6_run_120 : decode cX6_run 120 = .ok (.invokevirtual 130, 3) := by decide +kernel
theorem dX6_run_123 : decode cX6_run 123 = .ok (.ireturn, 1) := by decide +kernel
theorem dX6_run_124 : decode cX6_run 124 = .ok (.aload_n 0, 1) := by decide +kernel
theorem dX6_run_125 : decode cX6_run 125 = .ok (.getfield 32, 3) := by decide +kernel
theorem dX6_run_128 : decode cX6_run 128 = .ok (.invokevirtual 116, 3) := by decide +kernel
theorem dX6_run_131 : decode cX6_run 131 = .ok (.ireturn, 1) := by decide +kernel
theorem dX6_run_132 : decode cX6_run 132 = .ok (.aload_n 0, 1) := by decide +kernel
theorem dX6_run_133 : decode cX6_run 133 = .ok (.getfield 32, 3) := by decide +kernel
theorem dX6_run_136 : decode cX6_run 136 = .ok (.invokevirtual 133, 3) := by decide +kernel
theorem dX6_run_139 : decode cX6_run 139 = .ok (.ireturn, 1) := by decide +kernel
theorem dX6_all_0 : decode cX6_all 0 = .ok (.iload_n 1, 1) := by decide +kernel
theorem dX6_all_1 : decode cX6_all 1 = .ok (.tableswitch 60 0 3 #[31, 36, 44, 52], 31) := by decide +kernel
theorem dX6_all_32 : decode cX6_all 32 = .ok (.aload_n 0, 1) := by decide +kernel
theorem dX6_all_33 : decode cX6_all 33 = .ok (.invokevirtual 136, 3) := by decide +kernel
theorem dX6_all_36 : decode cX6_all 36 = .ok (.ireturn, 1) := by decide +kernel
theorem dX6_all_37 : decode cX6_all 37 = .ok (.aload_n 0, 1) := by decide +kernel
theorem dX6_all_38 : decode cX6_all 38 = .ok (.getfield 28, 3) := by decide +kernel
theorem dX6_all_41 : decode cX6_all 41 = .ok (.invokevirtual 116, 3) := by decide +kernel
theorem dX6_all_44 : decode cX6_all 44 = .ok (.ireturn, 1) := by decide +kernel
theorem dX6_all_45 : decode cX6_all 45 = .ok (.aload_n 0, 1) := by decide +kernel
theorem dX6_all_46 : decode cX6_all 46 = .ok (.getfield 28, 3) := by decide +kernel
theorem dX6_all_49 : decode cX6_all 49 = .ok (.invokevirtual 133, 3) := by decide +kernel
theorem dX6_all_52 : decode cX6_all 52 = .ok (.ireturn, 1) := by decide +kernel
theorem dX6_all_53 : decode cX6_all 53 = .ok (.aload_n 0, 1) := by decide +kernel
theorem dX6_all_54 : decode cX6_all 54 = .ok (.getfield 28, 3) := by decide +kernel
theorem dX6_all_57 : decode cX6_all 57 = .ok (.invokevirtual 139, 3) := by decide +kernel
theorem dX6_all_60 : decode cX6_all 60 = .ok (.ireturn, 1) := by decide +kernel
theorem dX6_all_61 : decode cX6_all 61 = .ok (.bipush (-2), 2) := by decide +kernel
theorem dX6_all_63 : decode cX6_all 63 = .ok (.ireturn, 1) := by decide +kernel
theorem dX6_meet_0 : decode cX6_meet 0 = .ok (.aload_n 0, 1) := by decide +kernel
theorem dX6_meet_1 : decode cX6_meet 1 = .ok (.iload_n 1, 1) := by decide +kernel
theorem dX6_meet_2 : decode cX6_meet 2 = .ok (.iload_n 2, 1) := by decide +kernel
theorem dX6_meet_3 : decode cX6_meet 3 = .ok (.invokevirtual 142, 3) := by decide +kernel
theorem dX6_meet_6 : decode cX6_meet 6 = .ok (.ifCond .ne 6, 3) := by decide +kernel
theorem dX6_meet_9 : decode cX6_meet 9 = .ok (.bipush (-2), 2) := by decide +kernel
theorem dX6_meet_11 : decode cX6_meet 11 = .ok (.ireturn, 1) := by decide +kernel
theorem dX6_meet_12 : decode cX6_meet 12 = .ok (.aload_n 0, 1) := by decide +kernel
theorem dX6_meet_13 : decode cX6_meet 13 = .ok (.getfield 32, 3) := by decide +kernel
theorem dX6_meet_16 : decode cX6_meet 16 = .ok (.aload_n 0, 1) := by decide +kernel
theorem dX6_meet_17 : decode cX6_meet 17 = .ok (.getfield 28, 3) := by decide +kernel
theorem dX6_meet_20 : decode cX6_meet 20 = .ok (.invokevirtual 120, 3) := by decide +kernel
theorem dX6_meet_23 : decode cX6_meet 23 = .ok (.iconst 0, 1) := by decide +kernel
theorem dX6_meet_24 : decode cX6_meet 24 = .ok (.istore_n 3, 1) := by decide +kernel
theorem dX6_meet_25 : decode cX6_meet 25 = .ok (.iload_n 3, 1) := by decide +kernel
theorem dX6_meet_26 : decode cX6_meet 26 = .ok (.bipush 60, 2) := by decide +kernel
theorem dX6_meet_28 : decode cX6_meet 28 = .ok (.if_icmp .gt 39, 3) := by decide +kernel
theorem dX6_meet_31 : decode cX6_meet 31 = .ok (.aload_n 0, 1) := by decide +kernel
theorem dX6_meet_32 : decode cX6_meet 32 = .ok (.getfield 32, 3) := by decide +kernel
theorem dX6_meet_35 : decode cX6_meet 35 = .ok (.getfield 127, 3) := by decide +kernel
theorem dX6_meet_38 : decode cX6_meet 38 = .ok (.iload_n 1, 1) := by decide +kernel
theorem dX6_meet_39 : decode cX6_meet 39 = .ok (.iaload, 1) := by decide +kernel
theorem dX6_meet_40 : decode cX6_meet 40 = .ok (.aload_n 0, 1) := by decide +kernel
theorem dX6_meet_41 : decode cX6_meet 41 = .ok (.getfield 32, 3) := by decide +kernel
theorem dX6_meet_44 : decode cX6_meet 44 = .ok (.getfield 127, 3) := by decide +kernel
theorem dX6_meet_47 : decode cX6_meet 47 = .ok (.iload_n 2, 1) := by decide +kernel
theorem dX6_meet_48 : decode cX6_meet 48 = .ok (.iaload, 1) := by decide +kernel
theorem dX6_meet_49 : decode cX6_meet 49 = .ok (.if_icmp .ne 5, 3) := by decide +kernel
theorem dX6_meet_52 : decode cX6_meet 52 = .ok (.iload_n 3, 1) := by decide +kernel
theorem dX6_meet_53 : decode cX6_meet 53 = .ok (.ireturn, 1) := by decide +kernel
theorem dX6_meet_54 : decode cX6_meet 54 = .ok (.aload_n 0, 1) := by decide +kernel
theorem dX6_meet_55 : decode cX6_meet 55 = .ok (.getfield 32, 3) := by decide +kernel
theorem dX6_meet_58 : decode cX6_meet 58 = .ok (.invokevirtual 113, 3) := by decide +kernel
theorem dX6_meet_61 : decode cX6_meet 61 = .ok (.iinc 3 1, 3) := by decide +kernel
theorem dX6_meet_64 : decode cX6_meet 64 = .ok (.goto (-39), 3) := by decide +kernel
theorem dX6_meet_67 : decode cX6_meet 67 = .ok (.iconst (-1), 1) := by decide +kernel
theorem dX6_meet_68 : decode cX6_meet 68 = .ok (.ireturn, 1) := by decide +kernel
theorem dX6_walk_0 : decode cX6_walk 0 = .ok (.iload_n 1, 1) := by decide +kernel
theorem dX6_walk_1 : decode cX6_walk 1 = .ok (.invokestatic 146, 3) := by decide +kernel
theorem dX6_walk_4 : decode cX6_walk 4 = .ok (.ifCond .ne 6, 3) := by decide +kernel
theorem dX6_walk_7 : decode cX6_walk 7 = .ok (.bipush (-2), 2) := by decide +kernel
theorem dX6_walk_9 : decode cX6_walk 9 = .ok (.ireturn, 1) := by decide +kernel
theorem dX6_walk_10 : decode cX6_walk 10 = .ok (.aload_n 0, 1) := by decide +kernel
theorem dX6_walk_11 : decode cX6_walk 11 = .ok (.getfield 47, 3) := by decide +kernel
theorem dX6_walk_14 : decode cX6_walk 14 = .ok (.iload_n 1, 1) := by decide +kernel
theorem dX6_walk_15 : decode cX6_walk 15 = .ok (.aaload, 1) := by decide +kernel
theorem dX6_walk_16 : decode cX6_walk 16 = .ok (.astore_n 2, 1) := by decide +kernel
theorem dX6_walk_17 : decode cX6_walk 17 = .ok (.aload_n 2, 1) := by decide +kernel
theorem dX6_walk_18 : decode cX6_walk 18 = .ok (.invokevirtual 149, 3) := by decide +kernel
theorem dX6_walk_21 : decode cX6_walk 21 = .ok (.ifCond .eq 6, 3) := by decide +kernel
theorem dX6_walk_24 : decode cX6_walk 24 = .ok (.bipush (-11), 2) := by decide +kernel
theorem dX6_walk_26 : decode cX6_walk 26 = .ok (.ireturn, 1) := by decide +kernel
theorem dX6_walk_27 : decode cX6_walk 27 = .ok (.aload_n 2, 1) := by decide +kernel
theorem dX6_walk_28 : decode cX6_walk 28 = .ok (.iconst 0, 1) := by decide +kernel
theorem dX6_walk_29 : decode cX6_walk 29 = .ok (.bipush 11, 2) := by decide +kernel
theorem dX6_walk_31 : decode cX6_walk 31 = .ok (.invokevirtual 153, 3) := by decide +kernel
theorem dX6_walk_34 : decode cX6_walk 34 = .ok (.ifCond .ne 6, 3) := by decide +kernel
theorem dX6_walk_37 : decode cX6_walk 37 = .ok (.bipush (-2), 2) := by decide +kernel
theorem dX6_walk_39 : decode cX6_walk 39 = .ok (.ireturn, 1) := by decide +kernel
theorem dX6_walk_40 : decode cX6_walk 40 = .ok (.iconst 0, 1) := by decide +kernel
theorem dX6_walk_41 : decode cX6_walk 41 = .ok (.istore_n 3, 1) := by decide +kernel
theorem dX6_walk_42 : decode cX6_walk 42 = .ok (.iconst 0, 1) := by decide +kernel
theorem dX6_walk_43 : decode cX6_walk 43 = .ok (.istore 4, 2) := by decide +kernel
theorem dX6_walk_45 : decode cX6_walk 45 = .ok (.iload 4, 2) := by decide +kernel
theorem dX6_walk_47 : decode cX6_walk 47 = .ok (.aload_n 2, 1) := by decide +kernel
theorem dX6_walk_48 : decode cX6_walk 48 = .ok (.getfield 156, 3) := by decide +kernel
theorem dX6_walk_51 : decode cX6_walk 51 = .ok (.if_icmp .ge 29, 3) := by decide +kernel
theorem dX6_walk_54 : decode cX6_walk 54 = .ok (.aload_n 0, 1) := by decide +kernel
theorem dX6_walk_55 : decode cX6_walk 55 = .ok (.getfield 28, 3) := by decide +kernel
theorem dX6_walk_58 : decode cX6_walk 58 = .ok (.aload_n 2, 1) := by decide +kernel
theorem dX6_walk_59 : decode cX6_walk 59 = .ok (.getfield 157, 3) := by decide +kernel
theorem dX6_walk_62 : decode cX6_walk 62 = .ok (.iload 4, 2) := by decide +kernel
theorem dX6_walk_64 : decode cX6_walk 64 = .ok (.iaload, 1) := by decide +kernel
theorem dX6_walk_65 : decode cX6_walk 65 = .ok (.invokevirtual 160, 3) := by decide +kernel
theorem dX6_walk_68 : decode cX6_walk 68 = .ok (.ifCond .eq 6, 3) := by decide +kernel
theorem dX6_walk_71 : decode cX6_walk 71 = .ok (.iinc 3 1, 3) := by decide +kernel
theorem dX6_walk_74 : decode cX6_walk 74 = .ok (.iinc 4 1, 3) := by decide +kernel
theorem dX6_walk_77 : decode cX6_walk 77 = .ok (.goto (-32), 3) := by decide +kernel
theorem dX6_walk_80 : decode cX6_walk 80 = .ok (.iload_n 3, 1) := by decide +kernel
theorem dX6_walk_81 : decode cX6_walk 81 = .ok (.ireturn, 1) := by decide +kernel
theorem dX6_jars_0 : decode cX6_jars 0 = .ok (.iload_n 1, 1) := by decide +kernel
theorem dX6_jars_1 : decode cX6_jars 1 = .ok (.iconst 0, 1) := by decide +kernel
theorem dX6_jars_2 : decode cX6_jars 2 = .ok (.iconst 3, 1) := by decide +kernel
theorem dX6_jars_3 : decode cX6_jars 3 = .ok (.invokestatic 56, 3) := by decide +kernel
theorem dX6_jars_6 : decode cX6_jars 6 = .ok (.ifCond .ne 6, 3) := by decide +kernel
theorem dX6_jars_9 : decode cX6_jars 9 = .ok (.bipush (-2), 2) := by decide +kernel
theorem dX6_jars_11 : decode cX6_jars 11 = .ok (.ireturn, 1) := by decide +kernel
theorem dX6_jars_12 : decode cX6_jars 12 = .ok (.aload_n 0, 1) := by decide +kernel
theorem dX6_jars_13 : decode cX6_jars 13 = .ok (.getfield 41, 3) := by decide +kernel
theorem dX6_jars_16 : decode cX6_jars 16 = .ok (.aload_n 0, 1) := by decide +kernel
theorem dX6_jars_17 : decode cX6_jars 17 = .ok (.getfield 28, 3) := by decide +kernel
theorem dX6_jars_20 : decode cX6_jars 20 = .ok (.invokevirtual 163, 3) := by decide +kernel
theorem dX6_jars_23 : decode cX6_jars 23 = .ok (.iload_n 1, 1) := by decide +kernel
theorem dX6_jars_24 : decode cX6_jars 24 = .ok (.tableswitch 53 0 2 #[28, 37, 45], 28) := by decide +kernel
theorem dX6_jars_52 : decode cX6_jars 52 = .ok (.aload_n 0, 1) := by decide +kernel
theorem dX6_jars_53 : decode cX6_jars 53 = .ok (.getfield 41, 3) := by decide +kernel
theorem dX6_jars_56 : decode cX6_jars 56 = .ok (.iconst (-1), 1) := by decide +kernel
theorem dX6_jars_57 : decode cX6_jars 57 = .ok (.invokevirtual 166, 3) := by decide +kernel
theorem dX6_jars_60 : decode cX6_jars 60 = .ok (.ireturn, 1) := by decide +kernel
theorem dX6_jars_61 : decode cX6_jars 61 = .ok (.aload_n 0, 1) := by decide +kernel
theorem dX6_jars_62 : decode cX6_jars 62 = .ok (.getfield 41, 3) := by decide +kernel
theorem dX6_jars_65 : decode cX6_jars 65 = .ok (.invokevirtual 169, 3) := by decide +kernel
theorem dX6_jars_68 : decode cX6_jars 68 = .ok (.ireturn, 1) := by decide +kernel
theorem dX6_jars_69 : decode cX6_jars 69 = .ok (.aload_n 0, 1) := by decide +kernel
theorem dX6_jars_70 : decode cX6_jars 70 = .ok (.getfield 41, 3) := by decide +kernel
theorem dX6_jars_73 : decode cX6_jars 73 = .ok (.invokevirtual 172, 3) := by decide +kernel
theorem dX6_jars_76 : decode cX6_jars 76 = .ok (.ireturn, 1) := by decide +kernel
theorem dX6_jars_77 : decode cX6_jars 77 = .ok (.aload_n 0, 1) := by decide +kernel
theorem dX6_jars_78 : decode cX6_jars 78 = .ok (.getfield 41, 3) := by decide +kernel
theorem dX6_jars_81 : decode cX6_jars 81 = .ok (.invokevirtual 175, 3) := by decide +kernel
theorem dX6_jars_84 : decode cX6_jars 84 = .ok (.ireturn, 1) := by decide +kernel
theorem dX6_can_0 : decode cX6_can 0 = .ok (.aload_n 0, 1) := by decide +kernel
theorem dX6_can_1 : decode cX6_can 1 = .ok (.iload_n 1, 1) := by decide +kernel
theorem dX6_can_2 : decode cX6_can 2 = .ok (.iload_n 2, 1) := by decide +kernel
theorem dX6_can_3 : decode cX6_can 3 = .ok (.invokevirtual 142, 3) := by decide +kernel
theorem dX6_can_6 : decode cX6_can 6 = .ok (.ifCond .ne 6, 3) := by decide +kernel
theorem dX6_can_9 : decode cX6_can 9 = .ok (.bipush (-2), 2) := by decide +kernel
theorem dX6_can_11 : decode cX6_can 11 = .ok (.ireturn, 1) := by decide +kernel
theorem dX6_can_12 : decode cX6_can 12 = .ok (.aload_n 0, 1) := by decide +kernel
theorem dX6_can_13 : decode cX6_can 13 = .ok (.getfield 28, 3) := by decide +kernel
theorem dX6_can_16 : decode cX6_can 16 = .ok (.iload_n 1, 1) := by decide +kernel
theorem dX6_can_17 : decode cX6_can 17 = .ok (.iload_n 2, 1) := by decide +kernel
theorem dX6_can_18 : decode cX6_can 18 = .ok (.invokevirtual 178, 3) := by decide +kernel
theorem dX6_can_21 : decode cX6_can 21 = .ok (.ifCond .eq 7, 3) := by decide +kernel
theorem dX6_can_24 : decode cX6_can 24 = .ok (.iconst 0, 1) := by decide +kernel
theorem dX6_can_25 : decode cX6_can 25 = .ok (.goto 4, 3) := by decide +kernel
theorem dX6_can_28 : decode cX6_can 28 = .ok (.iconst 1, 1) := by decide +kernel
theorem dX6_can_29 : decode cX6_can 29 = .ok (.ireturn, 1) := by decide +kernel
theorem dX6_twos_0 : decode cX6_twos 0 = .ok (.iload_n 1, 1) := by decide +kernel
theorem dX6_twos_1 : decode cX6_twos 1 = .ok (.iconst 0, 1) := by decide +kernel
theorem dX6_twos_2 : decode cX6_twos 2 = .ok (.bipush 6, 2) := by decide +kernel
theorem dX6_twos_4 : decode cX6_twos 4 = .ok (.invokestatic 56, 3) := by decide +kernel
theorem dX6_twos_7 : decode cX6_twos 7 = .ok (.ifCond .ne 6, 3) := by decide +kernel
theorem dX6_twos_10 : decode cX6_twos 10 = .ok (.bipush (-2), 2) := by decide +kernel
theorem dX6_twos_12 : decode cX6_twos 12 = .ok (.ireturn, 1) := by decide +kernel
theorem dX6_twos_13 : decode cX6_twos 13 = .ok (.aload_n 0, 1) := by decide +kernel
theorem dX6_twos_14 : decode cX6_twos 14 = .ok (.getfield 28, 3) := by decide +kernel
theorem dX6_twos_17 : decode cX6_twos 17 = .ok (.iload_n 1, 1) := by decide +kernel
theorem dX6_twos_18 : decode cX6_twos 18 = .ok (.iconst 0, 1) := by decide +kernel
theorem dX6_twos_19 : decode cX6_twos 19 = .ok (.iconst 0, 1) := by decide +kernel
theorem dX6_twos_20 : decode cX6_twos 20 = .ok (.invokestatic 181, 3) := by decide +kernel
theorem dX6_twos_23 : decode cX6_twos 23 = .ok (.ireturn, 1) := by decide +kernel
theorem dX6_toss_0 : decode cX6_toss 0 = .ok (.aload_n 0, 1) := by decide +kernel
theorem dX6_toss_1 : decode cX6_toss 1 = .ok (.iload_n 1, 1) := by decide +kernel
theorem dX6_toss_2 : decode cX6_toss 2 = .ok (.invokevirtual 60, 3) := by decide +kernel
theorem dX6_toss_5 : decode cX6_toss 5 = .ok (.ifCond .eq 12, 3) := by decide +kernel
theorem dX6_toss_8 : decode cX6_toss 8 = .ok (.iload_n 2, 1) := by decide +kernel
theorem dX6_toss_9 : decode cX6_toss 9 = .ok (.iconst 0, 1) := by decide +kernel
theorem dX6_toss_10 : decode cX6_toss 10 = .ok (.iconst 1, 1) := by decide +kernel
theorem dX6_toss_11 : decode cX6_toss 11 = .ok (.invokestatic 56, 3) := by decide +kernel
theorem dX6_toss_14 : decode cX6_toss 14 = .ok (.ifCond .ne 6, 3) := by decide +kernel
theorem dX6_toss_17 : decode cX6_toss 17 = .ok (.bipush (-2), 2) := by decide +kernel
theorem dX6_toss_19 : decode cX6_toss 19 = .ok (.ireturn, 1) := by decide +kernel
theorem dX6_toss_20 : decode cX6_toss 20 = .ok (.iconst 0, 1) := by decide +kernel
theorem dX6_toss_21 : decode cX6_toss 21 = .ok (.istore_n 3, 1) := by decide +kernel
theorem dX6_toss_22 : decode cX6_toss 22 = .ok (.bipush 61, 2) := by decide +kernel
theorem dX6_toss_24 : decode cX6_toss 24 = .ok (.istore 4, 2) := by decide +kernel
theorem dX6_toss_26 : decode cX6_toss 26 = .ok (.iconst 0, 1) := by decide +kernel
theorem dX6_toss_27 : decode cX6_toss 27 = .ok (.istore 5, 2) := by decide +kernel
theorem dX6_toss_29 : decode cX6_toss 29 = .ok (.iload 5, 2) := by decide +kernel
theorem dX6_toss_31 : decode cX6_toss 31 = .ok (.bipush 12, 2) := by decide +kernel
theorem dX6_toss_33 : decode cX6_toss 33 = .ok (.if_icmp .ge 34, 3) := by decide +kernel
theorem dX6_toss_36 : decode cX6_toss 36 = .ok (.aload_n 0, 1) := by decide +kernel
theorem dX6_toss_37 : decode cX6_toss 37 = .ok (.iload_n 1, 1) := by decide +kernel
theorem dX6_toss_38 : decode cX6_toss 38 = .ok (.iload 5, 2) := by decide +kernel
theorem dX6_toss_40 : decode cX6_toss 40 = .ok (.iload 4, 2) := by decide +kernel
theorem dX6_toss_42 : decode cX6_toss 42 = .ok (.invokevirtual 185, 3) := by decide +kernel
theorem dX6_toss_45 : decode cX6_toss 45 = .ok (.istore 6, 2) := by decide +kernel
theorem dX6_toss_47 : decode cX6_toss 47 = .ok (.iload 6, 2) := by decide +kernel
theorem dX6_toss_49 : decode cX6_toss 49 = .ok (.iload 4, 2) := by decide +kernel
theorem dX6_toss_51 : decode cX6_toss 51 = .ok (.if_icmp .ge 10, 3) := by decide +kernel
theorem dX6_toss_54 : decode cX6_toss 54 = .ok (.iload 5, 2) := by decide +kernel
theorem dX6_toss_56 : decode cX6_toss 56 = .ok (.istore_n 3, 1) := by decide +kernel
theorem dX6_toss_57 : decode cX6_toss 57 = .ok (.iload 6, 2) := by decide +kernel
theorem dX6_toss_59 : decode cX6_toss 59 = .ok (.istore 4, 2) := by decide +kernel
theorem dX6_toss_61 : decode cX6_toss 61 = .ok (.iinc 5 1, 3) := by decide +kernel
theorem dX6_toss_64 : decode cX6_toss 64 = .ok (.goto (-35), 3) := by decide +kernel
theorem dX6_toss_67 : decode cX6_toss 67 = .ok (.iload_n 2, 1) := by decide +kernel
theorem dX6_toss_68 : decode cX6_toss 68 = .ok (.ifCond .ne 7, 3) := by decide +kernel
theorem dX6_toss_71 : decode cX6_toss 71 = .ok (.iload_n 3, 1) := by decide +kernel
theorem dX6_toss_72 : decode cX6_toss 72 = .ok (.goto 5, 3) := by decide +kernel
theorem dX6_toss_75 : decode cX6_toss 75 = .ok (.iload 4, 2) := by decide +kernel
theorem dX6_toss_77 : decode cX6_toss 77 = .ok (.ireturn, 1) := by decide +kernel
theorem dX6_mean_0 : decode cX6_mean 0 = .ok (.iload_n 1, 1) := by decide +kernel
theorem dX6_mean_1 : decode cX6_mean 1 = .ok (.iconst 0, 1) := by decide +kernel
theorem dX6_mean_2 : decode cX6_mean 2 = .ok (.iconst 1, 1) := by decide +kernel
theorem dX6_mean_3 : decode cX6_mean 3 = .ok (.invokestatic 56, 3) := by decide +kernel
theorem dX6_mean_6 : decode cX6_mean 6 = .ok (.ifCond .eq 13, 3) := by decide +kernel
theorem dX6_mean_9 : decode cX6_mean 9 = .ok (.aload_n 0, 1) := by decide +kernel
theorem dX6_mean_10 : decode cX6_mean 10 = .ok (.getfield 28, 3) := by decide +kernel
theorem dX6_mean_13 : decode cX6_mean 13 = .ok (.getfield 189, 3) := by decide +kernel
theorem dX6_mean_16 : decode cX6_mean 16 = .ok (.ifCond .ne 7, 3) := by decide +kernel
theorem dX6_mean_19 : decode cX6_mean 19 = .ok (.ldc2_w 190, 3) := by decide +kernel
theorem dX6_mean_22 : decode cX6_mean 22 = .ok (.lreturn, 1) := by decide +kernel
theorem dX6_mean_23 : decode cX6_mean 23 = .ok (.aload_n 0, 1) := by decide +kernel
theorem dX6_mean_24 : decode cX6_mean 24 = .ok (.getfield 28, 3) := by decide +kernel
theorem dX6_mean_27 : decode cX6_mean 27 = .ok (.invokevirtual 130, 3) := by decide +kernel
theorem dX6_mean_30 : decode cX6_mean 30 = .ok (.aload_n 0, 1) := by decide +kernel
theorem dX6_mean_31 : decode cX6_mean 31 = .ok (.getfield 28, 3) := by decide +kernel
theorem dX6_mean_34 : decode cX6_mean 34 = .ok (.getfield 189, 3) := by decide +kernel
theorem dX6_mean_37 : decode cX6_mean 37 = .ok (.iload_n 1, 1) := by decide +kernel
theorem dX6_mean_38 : decode cX6_mean 38 = .ok (.invokestatic 192, 3) := by decide +kernel
theorem dX6_mean_41 : decode cX6_mean 41 = .ok (.lreturn, 1) := by decide +kernel
theorem dX6_tells_0 : decode cX6_tells 0 = .ok (.iload_n 1, 1) := by decide +kernel
theorem dX6_tells_1 : decode cX6_tells 1 = .ok (.invokestatic 146, 3) := by decide +kernel
theorem dX6_tells_4 : decode cX6_tells 4 = .ok (.ifCond .eq 21, 3) := by decide +kernel
theorem dX6_tells_7 : decode cX6_tells 7 = .ok (.aload_n 0, 1) := by decide +kernel
theorem dX6_tells_8 : decode cX6_tells 8 = .ok (.iload_n 2, 1) := by decide +kernel
theorem dX6_tells_9 : decode cX6_tells 9 = .ok (.invokevirtual 60, 3) := by decide +kernel
theorem dX6_tells_12 : decode cX6_tells 12 = .ok (.ifCond .eq 13, 3) := by decide +kernel
theorem dX6_tells_15 : decode cX6_tells 15 = .ok (.iload_n 3, 1) := by decide +kernel
theorem dX6_tells_16 : decode cX6_tells 16 = .ok (.iconst 0, 1) := by decide +kernel
theorem dX6_tells_17 : decode cX6_tells 17 = .ok (.bipush 7, 2) := by decide +kernel
theorem dX6_tells_19 : decode cX6_tells 19 = .ok (.invokestatic 56, 3) := by decide +kernel
theorem dX6_tells_22 : decode cX6_tells 22 = .ok (.ifCond .ne 6, 3) := by decide +kernel
theorem dX6_tells_25 : decode cX6_tells 25 = .ok (.bipush (-2), 2) := by decide +kernel
theorem dX6_tells_27 : decode cX6_tells 27 = .ok (.ireturn, 1) := by decide +kernel
theorem dX6_tells_28 : decode cX6_tells 28 = .ok (.aload_n 0, 1) := by decide +kernel
theorem dX6_tells_29 : decode cX6_tells 29 = .ok (.getfield 47, 3) := by decide +kernel
theorem dX6_tells_32 : decode cX6_tells 32 = .ok (.iload_n 1, 1) := by decide +kernel
theorem dX6_tells_33 : decode cX6_tells 33 = .ok (.aaload, 1) := by decide +kernel
theorem dX6_tells_34 : decode cX6_tells 34 = .ok (.astore 4, 2) := by decide +kernel
theorem dX6_tells_36 : decode cX6_tells 36 = .ok (.aload 4, 2) := by decide +kernel
theorem dX6_tells_38 : decode cX6_tells 38 = .ok (.invokevirtual 149, 3) := by decide +kernel
theorem dX6_tells_41 : decode cX6_tells 41 = .ok (.ifCond .eq 6, 3) := by decide +kernel
theorem dX6_tells_44 : decode cX6_tells 44 = .ok (.bipush (-11), 2) := by decide +kernel
theorem dX6_tells_46 : decode cX6_tells 46 = .ok (.ireturn, 1) := by decide +kernel
theorem dX6_tells_47 : decode cX6_tells 47 = .ok (.aload 4, 2) := by decide +kernel
theorem dX6_tells_49 : decode cX6_tells 49 = .ok (.getfield 156, 3) := by decide +kernel
theorem dX6_tells_52 : decode cX6_tells 52 = .ok (.bipush 30, 2) := by decide +kernel
theorem dX6_tells_54 : decode cX6_tells 54 = .ok (.if_icmp .le 6, 3) := by decide +kernel
theorem dX6_tells_57 : decode cX6_tells 57 = .ok (.bipush (-2), 2) := by decide +kernel
theorem dX6_tells_59 : decode cX6_tells 59 = .ok (.ireturn, 1) := by decide +kernel
theorem dX6_tells_60 : decode cX6_tells 60 = .ok (.iload_n 3, 1) := by decide +kernel
theorem dX6_tells_61 : decode cX6_tells 61 = .ok (.tableswitch 113 0 6 #[43, 62, 71, 80, 88, 96, 105], 43) := by decide +kernel
theorem dX6_tells_104 : decode cX6_tells 104 = .ok (.aload_n 0, 1) := by decide +kernel
theorem dX6_tells_105 : decode cX6_tells 105 = .ok (.getfield 32, 3) := by decide +kernel
theorem dX6_tells_108 : decode cX6_tells 108 = .ok (.aload_n 0, 1) := by decide +kernel
theorem dX6_tells_109 : decode cX6_tells 109 = .ok (.getfield 28, 3) := by decide +kernel
theorem dX6_tells_112 : decode cX6_tells 112 = .ok (.invokevirtual 120, 3) := by decide +kernel
theorem dX6_tells_115 : decode cX6_tells 115 = .ok (.aload_n 0, 1) := by decide +kernel
theorem dX6_tells_116 : decode cX6_tells 116 = .ok (.aload 4, 2) := by decide +kernel
theorem dX6_tells_118 : decode cX6_tells 118 = .ok (.iload_n 2, 1) := by decide +kernel
theorem dX6_tells_119 : decode cX6_tells 119 = .ok (.invokevirtual 196, 3) := by decide +kernel
theorem dX6_tells_122 : decode cX6_tells 122 = .ok (.ireturn, 1) := by decide +kernel
theorem dX6_tells_123 : decode cX6_tells 123 = .ok (.aload_n 0, 1) := by decide +kernel
theorem dX6_tells_124 : decode cX6_tells 124 = .ok (.aload 4, 2) := by decide +kernel
theorem dX6_tells_126 : decode cX6_tells 126 = .ok (.iload_n 2, 1) := by decide +kernel
theorem dX6_tells_127 : decode cX6_tells 127 = .ok (.iconst 5, 1) := by decide +kernel
theorem dX6_tells_128 : decode cX6_tells 128 = .ok (.invokevirtual 200, 3) := by decide +kernel
theorem dX6_tells_131 : decode cX6_tells 131 = .ok (.ireturn, 1) := by decide +kernel
theorem dX6_tells_132 : decode cX6_tells 132 = .ok (.aload_n 0, 1) := by decide +kernel
theorem dX6_tells_133 : decode cX6_tells 133 = .ok (.aload 4, 2) := by decide +kernel
theorem dX6_tells_135 : decode cX6_tells 135 = .ok (.iload_n 2, 1) := by decide +kernel
theorem dX6_tells_136 : decode cX6_tells 136 = .ok (.iconst 1, 1) := by decide +kernel
theorem dX6_tells_137 : decode cX6_tells 137 = .ok (.invokevirtual 200, 3) := by decide +kernel
theorem dX6_tells_140 : decode cX6_tells 140 = .ok (.ireturn, 1) := by decide +kernel
theorem dX6_tells_141 : decode cX6_tells 141 = .ok (.aload_n 0, 1) := by decide +kernel
theorem dX6_tells_142 : decode cX6_tells 142 = .ok (.aload 4, 2) := by decide +kernel
theorem dX6_tells_144 : decode cX6_tells 144 = .ok (.iload_n 2, 1) := by decide +kernel
theorem dX6_tells_145 : decode cX6_tells 145 = .ok (.invokevirtual 204, 3) := by decide +kernel
theorem dX6_tells_148 : decode cX6_tells 148 = .ok (.ireturn, 1) := by decide +kernel
theorem dX6_tells_149 : decode cX6_tells 149 = .ok (.aload_n 0, 1) := by decide +kernel
theorem dX6_tells_150 : decode cX6_tells 150 = .ok (.aload 4, 2) := by decide +kernel
theorem dX6_tells_152 : decode cX6_tells 152 = .ok (.iload_n 2, 1) := by decide +kernel
theorem dX6_tells_153 : decode cX6_tells 153 = .ok (.invokevirtual 207, 3) := by decide +kernel
theorem dX6_tells_156 : decode cX6_tells 156 = .ok (.ireturn, 1) := by decide +kernel
theorem dX6_tells_157 : decode cX6_tells 157 = .ok (.aload_n 0, 1) := by decide +kernel
theorem dX6_tells_158 : decode cX6_tells 158 = .ok (.aload 4, 2) := by decide +kernel
theorem dX6_tells_160 : decode cX6_tells 160 = .ok (.iload_n 2, 1) := by decide +kernel
theorem dX6_tells_161 : decode cX6_tells 161 = .ok (.iconst 3, 1) := by decide +kernel
theorem dX6_tells_162 : decode cX6_tells 162 = .ok (.invokevirtual 200, 3) := by decide +kernel
theorem dX6_tells_165 : decode cX6_tells 165 = .ok (.ireturn, 1) := by decide +kernel
theorem dX6_tells_166 : decode cX6_tells 166 = .ok (.aload_n 0, 1) := by decide +kernel
theorem dX6_tells_167 : decode cX6_tells 167 = .ok (.aload 4, 2) := by decide +kernel
theorem dX6_tells_169 : decode cX6_tells 169 = .ok (.iload_n 2, 1) := by decide +kernel
theorem dX6_tells_170 : decode cX6_tells 170 = .ok (.invokevirtual 210, 3) := by decide +kernel
theorem dX6_tells_173 : decode cX6_tells 173 = .ok (.ireturn, 1) := by decide +kernel
theorem dX6_tells_174 : decode cX6_tells 174 = .ok (.aload_n 0, 1) := by decide +kernel
theorem dX6_tells_175 : decode cX6_tells 175 = .ok (.aload 4, 2) := by decide +kernel
theorem dX6_tells_177 : decode cX6_tells 177 = .ok (.invokevirtual 213, 3) := by decide +kernel
theorem dX6_tells_180 : decode cX6_tells 180 = .ok (.ireturn, 1) := by decide +kernel
theorem dX6_film_0 : decode cX6_film 0 = .ok (.iload_n 1, 1) := by decide +kernel
theorem dX6_film_1 : decode cX6_film 1 = .ok (.invokestatic 146, 3) := by decide +kernel
theorem dX6_film_4 : decode cX6_film 4 = .ok (.ifCond .eq 21, 3) := by decide +kernel
theorem dX6_film_7 : decode cX6_film 7 = .ok (.aload_n 0, 1) := by decide +kernel
theorem dX6_film_8 : decode cX6_film 8 = .ok (.iload_n 2, 1) := by decide +kernel
theorem dX6_film_9 : decode cX6_film 9 = .ok (.invokevirtual 60, 3) := by decide +kernel
theorem dX6_film_12 : decode cX6_film 12 = .ok (.ifCond .eq 13, 3) := by decide +kernel
theorem dX6_film_15 : decode cX6_film 15 = .ok (.iload_n 3, 1) := by decide +kernel
theorem dX6_film_16 : decode cX6_film 16 = .ok (.iconst 0, 1) := by decide +kernel
theorem dX6_film_17 : decode cX6_film 17 = .ok (.bipush 30, 2) := by decide +kernel
theorem dX6_film_19 : decode cX6_film 19 = .ok (.invokestatic 56, 3) := by decide +kernel
theorem dX6_film_22 : decode cX6_film 22 = .ok (.ifCond .ne 6, 3) := by decide +kernel
theorem dX6_film_25 : decode cX6_film 25 = .ok (.bipush (-2), 2) := by decide +kernel
theorem dX6_film_27 : decode cX6_film 27 = .ok (.ireturn, 1) := by decide +kernel
theorem dX6_film_28 : decode cX6_film 28 = .ok (.aload_n 0, 1) := by decide +kernel
theorem dX6_film_29 : decode cX6_film 29 = .ok (.getfield 47, 3) := by decide +kernel
theorem dX6_film_32 : decode cX6_film 32 = .ok (.iload_n 1, 1) := by decide +kernel
theorem dX6_film_33 : decode cX6_film 33 = .ok (.aaload, 1) := by decide +kernel
theorem dX6_film_34 : decode cX6_film 34 = .ok (.astore 4, 2) := by decide +kernel
theorem dX6_film_36 : decode cX6_film 36 = .ok (.aload 4, 2) := by decide +kernel
theorem dX6_film_38 : decode cX6_film 38 = .ok (.iconst 0, 1) := by decide +kernel
theorem dX6_film_39 : decode cX6_film 39 = .ok (.iload_n 3, 1) := by decide +kernel
theorem dX6_film_40 : decode cX6_film 40 = .ok (.invokevirtual 217, 3) := by decide +kernel
theorem dX6_film_43 : decode cX6_film 43 = .ok (.aload_n 0, 1) := by decide +kernel
theorem dX6_film_44 : decode cX6_film 44 = .ok (.getfield 32, 3) := by decide +kernel
theorem dX6_film_47 : decode cX6_film 47 = .ok (.aload_n 0, 1) := by decide +kernel
theorem dX6_film_48 : decode cX6_film 48 = .ok (.getfield 28, 3) := by decide +kernel
theorem dX6_film_51 : decode cX6_film 51 = .ok (.invokevirtual 120, 3) := by decide +kernel
theorem dX6_film_54 : decode cX6_film 54 = .ok (.iconst 0, 1) := by decide +kernel
theorem dX6_film_55 : decode cX6_film 55 = .ok (.istore 5, 2) := by decide +kernel
theorem dX6_film_57 : decode cX6_film 57 = .ok (.iload 5, 2) := by decide +kernel
theorem dX6_film_59 : decode cX6_film 59 = .ok (.iload_n 3, 1) := by decide +kernel
theorem dX6_film_60 : decode cX6_film 60 = .ok (.if_icmp .ge 32, 3) := by decide +kernel
theorem dX6_film_63 : decode cX6_film 63 = .ok (.aload 4, 2) := by decide +kernel
theorem dX6_film_65 : decode cX6_film 65 = .ok (.iload 5, 2) := by decide +kernel
theorem dX6_film_67 : decode cX6_film 67 = .ok (.aload_n 0, 1) := by decide +kernel
theorem dX6_film_68 : decode cX6_film 68 = .ok (.getfield 32, 3) := by decide +kernel
theorem dX6_film_71 : decode cX6_film 71 = .ok (.getfield 124, 3) := by decide +kernel
theorem dX6_film_74 : decode cX6_film 74 = .ok (.iload_n 2, 1) := by decide +kernel
theorem dX6_film_75 : decode cX6_film 75 = .ok (.iaload, 1) := by decide +kernel
theorem dX6_film_76 : decode cX6_film 76 = .ok (.invokevirtual 220, 3) := by decide +kernel
theorem dX6_film_79 : decode cX6_film 79 = .ok (.aload_n 0, 1) := by decide +kernel
theorem dX6_film_80 : decode cX6_film 80 = .ok (.getfield 32, 3) := by decide +kernel
theorem dX6_film_83 : decode cX6_film 83 = .ok (.invokevirtual 113, 3) := by decide +kernel
theorem dX6_film_86 : decode cX6_film 86 = .ok (.iinc 5 1, 3) := by decide +kernel
theorem dX6_film_89 : decode cX6_film 89 = .ok (.goto (-32), 3) := by decide +kernel
theorem dX6_film_92 : decode cX6_film 92 = .ok (.iload_n 3, 1) := by decide +kernel
theorem dX6_film_93 : decode cX6_film 93 = .ok (.ireturn, 1) := by decide +kernel
theorem dX6_drawn_0 : decode cX6_drawn 0 = .ok (.iload_n 2, 1) := by decide +kernel
theorem dX6_drawn_1 : decode cX6_drawn 1 = .ok (.iconst 0, 1) := by decide +kernel
theorem dX6_drawn_2 : decode cX6_drawn 2 = .ok (.bipush 40, 2) := by decide +kernel
theorem dX6_drawn_4 : decode cX6_drawn 4 = .ok (.invokestatic 56, 3) := by decide +kernel
theorem dX6_drawn_7 : decode cX6_drawn 7 = .ok (.ifCond .ne 6, 3) := by decide +kernel
theorem dX6_drawn_10 : decode cX6_drawn 10 = .ok (.bipush (-2), 2) := by decide +kernel
theorem dX6_drawn_12 : decode cX6_drawn 12 = .ok (.ireturn, 1) := by decide +kernel
theorem dX6_drawn_13 : decode cX6_drawn 13 = .ok (.aload_n 0, 1) := by decide +kernel
theorem dX6_drawn_14 : decode cX6_drawn 14 = .ok (.iload_n 1, 1) := by decide +kernel
theorem dX6_drawn_15 : decode cX6_drawn 15 = .ok (.iload_n 2, 1) := by decide +kernel
theorem dX6_drawn_16 : decode cX6_drawn 16 = .ok (.invokevirtual 223, 3) := by decide +kernel
theorem dX6_drawn_19 : decode cX6_drawn 19 = .ok (.ireturn, 1) := by decide +kernel
theorem dX6_chance_0 : decode cX6_chance 0 = .ok (.iload_n 2, 1) := by decide +kernel
theorem dX6_chance_1 : decode cX6_chance 1 = .ok (.iconst 1, 1) := by decide +kernel
theorem dX6_chance_2 : decode cX6_chance 2 = .ok (.bipush 20, 2) := by decide +kernel
theorem dX6_chance_4 : decode cX6_chance 4 = .ok (.invokestatic 56, 3) := by decide +kernel
theorem dX6_chance_7 : decode cX6_chance 7 = .ok (.ifCond .eq 23, 3) := by decide +kernel
theorem dX6_chance_10 : decode cX6_chance 10 = .ok (.iload_n 3, 1) := by decide +kernel
theorem dX6_chance_11 : decode cX6_chance 11 = .ok (.iconst 0, 1) := by decide +kernel
theorem dX6_chance_12 : decode cX6_chance 12 = .ok (.bipush 8, 2) := by decide +kernel
theorem dX6_chance_14 : decode cX6_chance 14 = .ok (.invokestatic 56, 3) := by decide +kernel
theorem dX6_chance_17 : decode cX6_chance 17 = .ok (.ifCond .eq 13, 3) := by decide +kernel
theorem dX6_chance_20 : decode cX6_chance 20 = .ok (.iload 4, 2) := by decide +kernel
theorem dX6_chance_22 : decode cX6_chance 22 = .ok (.iconst 0, 1) := by decide +kernel
theorem dX6_chance_23 : decode cX6_chance 23 = .ok (.iconst 1, 1) := by decide +kernel
theorem dX6_chance_24 : decode cX6_chance 24 = .ok (.invokestatic 56, 3) := by decide +kernel
theorem dX6_chance_27 : decode cX6_chance 27 = .ok (.ifCond .ne 7, 3) := by decide +kernel
theorem dX6_chance_30 : decode cX6_chance 30 = .ok (.ldc2_w 190, 3) := by decide +kernel
theorem dX6_chance_33 : decode cX6_chance 33 = .ok (.lreturn, 1) := by decide +kernel
theorem dX6_chance_34 : decode cX6_chance 34 = .ok (.iconst 0, 1) := by decide +kernel
theorem dX6_chance_35 : decode cX6_chance 35 = .ok (.istore 5, 2) := by decide +kernel
theorem dX6_chance_37 : decode cX6_chance 37 = .ok (.iconst 0, 1) := by decide +kernel
theorem dX6_chance_38 : decode cX6_chance 38 = .ok (.istore 6, 2) := by decide +kernel
theorem dX6_chance_40 : decode cX6_chance 40 = .ok (.iload 6, 2) := by decide +kernel
theorem dX6_chance_42 : decode cX6_chance 42 = .ok (.iload_n 2, 1) := by decide +kernel
theorem dX6_chance_43 : decode cX6_chance 43 = .ok (.if_icmp .ge 26, 3) := by decide +kernel
theorem dX6_chance_46 : decode cX6_chance 46 = .ok (.aload_n 0, 1) := by decide +kernel
theorem dX6_chance_47 : decode cX6_chance 47 = .ok (.iload_n 1, 1) := by decide +kernel
theorem dX6_chance_48 : decode cX6_chance 48 = .ok (.iload 6, 2) := by decide +kernel
theorem dX6_chance_50 : decode cX6_chance 50 = .ok (.iadd, 1) := by decide +kernel
theorem dX6_chance_51 : decode cX6_chance 51 = .ok (.bipush 20, 2) := by decide +kernel
theorem dX6_chance_53 : decode cX6_chance 53 = .ok (.invokevirtual 223, 3) := by decide +kernel
theorem dX6_chance_56 : decode cX6_chance 56 = .ok (.iload_n 3, 1) := by decide +kernel
theorem dX6_chance_57 : decode cX6_chance 57 = .ok (.if_icmp .lt 6, 3) := by decide +kernel
theorem dX6_chance_60 : decode cX6_chance 60 = .ok (.iinc 5 1, 3) := by decide +kernel
theorem dX6_chance_63 : decode cX6_chance 63 = .ok (.iinc 6 1, 3) := by decide +kernel
theorem dX6_chance_66 : decode cX6_chance 66 = .ok (.goto (-26), 3) := by decide +kernel
theorem dX6_chance_69 : decode cX6_chance 69 = .ok (.iload 5, 2) := by decide +kernel
theorem dX6_chance_71 : decode cX6_chance 71 = .ok (.iload_n 2, 1) := by decide +kernel
theorem dX6_chance_72 : decode cX6_chance 72 = .ok (.iload 4, 2) := by decide +kernel
theorem dX6_chance_74 : decode cX6_chance 74 = .ok (.invokestatic 192, 3) := by decide +kernel
theorem dX6_chance_77 : decode cX6_chance 77 = .ok (.lreturn, 1) := by decide +kernel
theorem dX6_image_0 : decode cX6_image 0 = .ok (.aload_n 0, 1) := by decide +kernel
theorem dX6_image_1 : decode cX6_image 1 = .ok (.getfield 35, 3) := by decide +kernel
theorem dX6_image_4 : decode cX6_image 4 = .ok (.aload_n 0, 1) := by decide +kernel
theorem dX6_image_5 : decode cX6_image 5 = .ok (.getfield 28, 3) := by decide +kernel
theorem dX6_image_8 : decode cX6_image 8 = .ok (.invokevirtual 120, 3) := by decide +kernel
theorem dX6_image_11 : decode cX6_image 11 = .ok (.aload_n 0, 1) := by decide +kernel
theorem dX6_image_12 : decode cX6_image 12 = .ok (.iconst 1, 1) := by decide +kernel
theorem dX6_image_13 : decode cX6_image 13 = .ok (.putfield 52, 3) := by decide +kernel
theorem dX6_image_16 : decode cX6_image 16 = .ok (.aload_n 0, 1) := by decide +kernel
theorem dX6_image_17 : decode cX6_image 17 = .ok (.getfield 35, 3) := by decide +kernel
theorem dX6_image_20 : decode cX6_image 20 = .ok (.getfield 189, 3) := by decide +kernel
theorem dX6_image_23 : decode cX6_image 23 = .ok (.ireturn, 1) := by decide +kernel
theorem dX6_back_0 : decode cX6_back 0 = .ok (.aload_n 0, 1) := by decide +kernel
theorem dX6_back_1 : decode cX6_back 1 = .ok (.getfield 52, 3) := by decide +kernel
theorem dX6_back_4 : decode cX6_back 4 = .ok (.ifCond .ne 6, 3) := by decide +kernel
theorem dX6_back_7 : decode cX6_back 7 = .ok (.bipush (-3), 2) := by decide +kernel
theorem dX6_back_9 : decode cX6_back 9 = .ok (.ireturn, 1) := by decide +kernel
theorem dX6_back_10 : decode cX6_back 10 = .ok (.aload_n 0, 1) := by decide +kernel
theorem dX6_back_11 : decode cX6_back 11 = .ok (.getfield 28, 3) := by decide +kernel
theorem dX6_back_14 : decode cX6_back 14 = .ok (.aload_n 0, 1) := by decide +kernel
theorem dX6_back_15 : decode cX6_back 15 = .ok (.getfield 35, 3) := by decide +kernel
theorem dX6_back_18 : decode cX6_back 18 = .ok (.invokevirtual 120, 3) := by decide +kernel
theorem dX6_back_21 : decode cX6_back 21 = .ok (.aload_n 0, 1) := by decide +kernel
theorem dX6_back_22 : decode cX6_back 22 = .ok (.getfield 28, 3) := by decide +kernel
theorem dX6_back_25 : decode cX6_back 25 = .ok (.getfield 189, 3) := by decide +kernel
theorem dX6_back_28 : decode cX6_back 28 = .ok (.ireturn, 1) := by decide +kernel
theorem dX6_count_0 : decode cX6_count 0 = .ok (.iload_n 1, 1) := by decide +kernel
theorem dX6_count_1 : decode cX6_count 1 = .ok (.tableswitch 87 0 5 #[39, 47, 55, 63, 71, 79], 39) := by decide +kernel
theorem dX6_count_40 : decode cX6_count 40 = .ok (.aload_n 0, 1) := by decide +kernel
theorem dX6_count_41 : decode cX6_count 41 = .ok (.getfield 28, 3) := by decide +kernel
theorem dX6_count_44 : decode cX6_count 44 = .ok (.getfield 189, 3) := by decide +kernel
theorem dX6_count_47 : decode cX6_count 47 = .ok (.ireturn, 1) := by decide +kernel
theorem dX6_count_48 : decode cX6_count 48 = .ok (.aload_n 0, 1) := by decide +kernel
theorem dX6_count_49 : decode cX6_count 49 = .ok (.getfield 28, 3) := by decide +kernel
theorem dX6_count_52 : decode cX6_count 52 = .ok (.invokevirtual 227, 3) := by decide +kernel
theorem dX6_count_55 : decode cX6_count 55 = .ok (.ireturn, 1) := by decide +kernel
theorem dX6_count_56 : decode cX6_count 56 = .ok (.aload_n 0, 1) := by decide +kernel
theorem dX6_count_57 : decode cX6_count 57 = .ok (.getfield 28, 3) := by decide +kernel
theorem dX6_count_60 : decode cX6_count 60 = .ok (.getfield 68, 3) := by decide +kernel
theorem dX6_count_63 : decode cX6_count 63 = .ok (.ireturn, 1) := by decide +kernel
theorem dX6_count_64 : decode cX6_count 64 = .ok (.aload_n 0, 1) := by decide +kernel
theorem dX6_count_65 : decode cX6_count 65 = .ok (.getfield 10, 3) := by decide +kernel
theorem dX6_count_68 : decode cX6_count 68 = .ok (.getfield 99, 3) := by decide +kernel
theorem dX6_count_71 : decode cX6_count 71 = .ok (.ireturn, 1) := by decide +kernel
theorem dX6_count_72 : decode cX6_count 72 = .ok (.aload_n 0, 1) := by decide +kernel
theorem dX6_count_73 : decode cX6_count 73 = .ok (.getfield 19, 3) := by decide +kernel
theorem dX6_count_76 : decode cX6_count 76 = .ok (.getfield 96, 3) := by decide +kernel
theorem dX6_count_79 : decode cX6_count 79 = .ok (.ireturn, 1) := by decide +kernel
theorem dX6_count_80 : decode cX6_count 80 = .ok (.aload_n 0, 1) := by decide +kernel
theorem dX6_count_81 : decode cX6_count 81 = .ok (.getfield 28, 3) := by decide +kernel
theorem dX6_count_84 : decode cX6_count 84 = .ok (.getfield 110, 3) := by decide +kernel
theorem dX6_count_87 : decode cX6_count 87 = .ok (.ireturn, 1) := by decide +kernel
theorem dX6_count_88 : decode cX6_count 88 = .ok (.bipush (-2), 2) := by decide +kernel
theorem dX6_count_90 : decode cX6_count 90 = .ok (.ireturn, 1) := by decide +kernel
theorem dX6_sheet_0 : decode cX6_sheet 0 = .ok (.iload_n 1, 1) := by decide +kernel
theorem dX6_sheet_1 : decode cX6_sheet 1 = .ok (.invokestatic 146, 3) := by decide +kernel
theorem dX6_sheet_4 : decode cX6_sheet 4 = .ok (.ifCond .eq 12, 3) := by decide +kernel
theorem dX6_sheet_7 : decode cX6_sheet 7 = .ok (.iload_n 2, 1) := by decide +kernel
theorem dX6_sheet_8 : decode cX6_sheet 8 = .ok (.iconst (-1), 1) := by decide +kernel
theorem dX6_sheet_9 : decode cX6_sheet 9 = .ok (.iconst 2, 1) := by decide +kernel
theorem dX6_sheet_10 : decode cX6_sheet 10 = .ok (.invokestatic 56, 3) := by decide +kernel
theorem dX6_sheet_13 : decode cX6_sheet 13 = .ok (.ifCond .ne 6, 3) := by decide +kernel
theorem dX6_sheet_16 : decode cX6_sheet 16 = .ok (.bipush (-2), 2) := by decide +kernel
theorem dX6_sheet_18 : decode cX6_sheet 18 = .ok (.ireturn, 1) := by decide +kernel
theorem dX6_sheet_19 : decode cX6_sheet 19 = .ok (.iload_n 2, 1) := by decide +kernel
theorem dX6_sheet_20 : decode cX6_sheet 20 = .ok (.iconst (-1), 1) := by decide +kernel
theorem dX6_sheet_21 : decode cX6_sheet 21 = .ok (.if_icmp .ne 16, 3) := by decide +kernel
theorem dX6_sheet_24 : decode cX6_sheet 24 = .ok (.aload_n 0, 1) := by decide +kernel
theorem dX6_sheet_25 : decode cX6_sheet 25 = .ok (.getfield 47, 3) := by decide +kernel
theorem dX6_sheet_28 : decode cX6_sheet 28 = .ok (.iload_n 1, 1) := by decide +kernel
theorem dX6_sheet_29 : decode cX6_sheet 29 = .ok (.aaload, 1) := by decide +kernel
theorem dX6_sheet_30 : decode cX6_sheet 30 = .ok (.iconst (-1), 1) := by decide +kernel
theorem dX6_sheet_31 : decode cX6_sheet 31 = .ok (.iconst 0, 1) := by decide +kernel
theorem dX6_sheet_32 : decode cX6_sheet 32 = .ok (.invokevirtual 217, 3) := by decide +kernel
theorem dX6_sheet_35 : decode cX6_sheet 35 = .ok (.iconst 1, 1) := by decide +kernel
theorem dX6_sheet_36 : decode cX6_sheet 36 = .ok (.ireturn, 1) := by decide +kernel
theorem dX6_sheet_37 : decode cX6_sheet 37 = .ok (.iload_n 3, 1) := by decide +kernel
theorem dX6_sheet_38 : decode cX6_sheet 38 = .ok (.bipush 40, 2) := by decide +kernel
theorem dX6_sheet_40 : decode cX6_sheet 40 = .ok (.if_icmp .le 6, 3) := by decide +kernel
theorem dX6_sheet_43 : decode cX6_sheet 43 = .ok (.bipush (-2), 2) := by decide +kernel
theorem dX6_sheet_45 : decode cX6_sheet 45 = .ok (.ireturn, 1) := by decide +kernel
theorem dX6_sheet_46 : decode cX6_sheet 46 = .ok (.iload_n 3, 1) := by decide +kernel
theorem dX6_sheet_47 : decode cX6_sheet 47 = .ok (.ifCond .ge 6, 3) := by decide +kernel
theorem dX6_sheet_50 : decode cX6_sheet 50 = .ok (.bipush (-14), 2) := by decide +kernel
theorem dX6_sheet_52 : decode cX6_sheet 52 = .ok (.ireturn, 1) := by decide +kernel
theorem dX6_sheet_53 : decode cX6_sheet 53 = .ok (.aload_n 0, 1) := by decide +kernel
theorem dX6_sheet_54 : decode cX6_sheet 54 = .ok (.getfield 47, 3) := by decide +kernel
theorem dX6_sheet_57 : decode cX6_sheet 57 = .ok (.iload_n 1, 1) := by decide +kernel
theorem dX6_sheet_58 : decode cX6_sheet 58 = .ok (.aaload, 1) := by decide +kernel
theorem dX6_sheet_59 : decode cX6_sheet 59 = .ok (.iload_n 2, 1) := by decide +kernel
theorem dX6_sheet_60 : decode cX6_sheet 60 = .ok (.iload_n 3, 1) := by decide +kernel
theorem dX6_sheet_61 : decode cX6_sheet 61 = .ok (.invokevirtual 217, 3) := by decide +kernel
theorem dX6_sheet_64 : decode cX6_sheet 64 = .ok (.iconst 1, 1) := by decide +kernel
theorem dX6_sheet_65 : decode cX6_sheet 65 = .ok (.ireturn, 1) := by decide +kernel
theorem dX6_cell_0 : decode cX6_cell 0 = .ok (.iload_n 1, 1) := by decide +kernel
theorem dX6_cell_1 : decode cX6_cell 1 = .ok (.invokestatic 146, 3) := by decide +kernel
theorem dX6_cell_4 : decode cX6_cell 4 = .ok (.ifCond .ne 6, 3) := by decide +kernel
theorem dX6_cell_7 : decode cX6_cell 7 = .ok (.bipush (-2), 2) := by decide +kernel
theorem dX6_cell_9 : decode cX6_cell 9 = .ok (.ireturn, 1) := by decide +kernel
theorem dX6_cell_10 : decode cX6_cell 10 = .ok (.aload_n 0, 1) := by decide +kernel
theorem dX6_cell_11 : decode cX6_cell 11 = .ok (.getfield 47, 3) := by decide +kernel
theorem dX6_cell_14 : decode cX6_cell 14 = .ok (.iload_n 1, 1) := by decide +kernel
theorem dX6_cell_15 : decode cX6_cell 15 = .ok (.aaload, 1) := by decide +kernel
theorem dX6_cell_16 : decode cX6_cell 16 = .ok (.astore 4, 2) := by decide +kernel
theorem dX6_cell_18 : decode cX6_cell 18 = .ok (.aload 4, 2) := by decide +kernel
theorem dX6_cell_20 : decode cX6_cell 20 = .ok (.invokevirtual 149, 3) := by decide +kernel
theorem dX6_cell_23 : decode cX6_cell 23 = .ok (.ifCond .eq 6, 3) := by decide +kernel
theorem dX6_cell_26 : decode cX6_cell 26 = .ok (.bipush (-11), 2) := by decide +kernel
theorem dX6_cell_28 : decode cX6_cell 28 = .ok (.ireturn, 1) := by decide +kernel
theorem dX6_cell_29 : decode cX6_cell 29 = .ok (.aload 4, 2) := by decide +kernel
theorem dX6_cell_31 : decode cX6_cell 31 = .ok (.iload_n 2, 1) := by decide +kernel
theorem dX6_cell_32 : decode cX6_cell 32 = .ok (.iconst 1, 1) := by decide +kernel
theorem dX6_cell_33 : decode cX6_cell 33 = .ok (.invokevirtual 230, 3) := by decide +kernel
theorem dX6_cell_36 : decode cX6_cell 36 = .ok (.ifCond .ne 6, 3) := by decide +kernel
theorem dX6_cell_39 : decode cX6_cell 39 = .ok (.bipush (-12), 2) := by decide +kernel
theorem dX6_cell_41 : decode cX6_cell 41 = .ok (.ireturn, 1) := by decide +kernel
theorem dX6_cell_42 : decode cX6_cell 42 = .ok (.aload 4, 2) := by decide +kernel
theorem dX6_cell_44 : decode cX6_cell 44 = .ok (.iload_n 2, 1) := by decide +kernel
theorem dX6_cell_45 : decode cX6_cell 45 = .ok (.iload_n 3, 1) := by decide +kernel
theorem dX6_cell_46 : decode cX6_cell 46 = .ok (.invokevirtual 220, 3) := by decide +kernel
theorem dX6_cell_49 : decode cX6_cell 49 = .ok (.iconst 1, 1) := by decide +kernel
theorem dX6_cell_50 : decode cX6_cell 50 = .ok (.ireturn, 1) := by decide +kernel
theorem dX6_copy_0 : decode cX6_copy 0 = .ok (.iload_n 1, 1) := by decide +kernel
theorem dX6_copy_1 : decode cX6_copy 1 = .ok (.invokestatic 146, 3) := by decide +kernel
theorem dX6_copy_4 : decode cX6_copy 4 = .ok (.ifCond .eq 10, 3) := by decide +kernel
theorem dX6_copy_7 : decode cX6_copy 7 = .ok (.iload_n 3, 1) := by decide +kernel
theorem dX6_copy_8 : decode cX6_copy 8 = .ok (.invokestatic 146, 3) := by decide +kernel
theorem dX6_copy_11 : decode cX6_copy 11 = .ok (.ifCond .ne 6, 3) := by decide +kernel
theorem dX6_copy_14 : decode cX6_copy 14 = .ok (.bipush (-2), 2) := by decide +kernel
theorem dX6_copy_16 : decode cX6_copy 16 = .ok (.ireturn, 1) := by decide +kernel
theorem dX6_copy_17 : decode cX6_copy 17 = .ok (.aload_n 0, 1) := by decide +kernel
theorem dX6_copy_18 : decode cX6_copy 18 = .ok (.getfield 47, 3) := by decide +kernel
theorem dX6_copy_21 : decode cX6_copy 21 = .ok (.iload_n 1, 1) := by decide +kernel
theorem dX6_copy_22 : decode cX6_copy 22 = .ok (.aaload, 1) := by decide +kernel
theorem dX6_copy_23 : decode cX6_copy 23 = .ok (.astore 6, 2) := by decide +kernel
theorem dX6_copy_25 : decode cX6_copy 25 = .ok (.aload_n 0, 1) := by decide +kernel
theorem dX6_copy_26 : decode cX6_copy 26 = .ok (.getfield 47, 3) := by decide +kernel
theorem dX6_copy_29 : decode cX6_copy 29 = .ok (.iload_n 3, 1) := by decide +kernel
theorem dX6_copy_30 : decode cX6_copy 30 = .ok (.aaload, 1) := by decide +kernel
theorem dX6_copy_31 : decode cX6_copy 31 = .ok (.astore 7, 2) := by decide +kernel
theorem dX6_copy_33 : decode cX6_copy 33 = .ok (.aload 6, 2) := by decide +kernel
theorem dX6_copy_35 : decode cX6_copy 35 = .ok (.invokevirtual 149, 3) := by decide +kernel
theorem dX6_copy_38 : decode cX6_copy 38 = .ok (.ifCond .ne 11, 3) := by decide +kernel
theorem dX6_copy_41 : decode cX6_copy 41 = .ok (.aload 7, 2) := by decide +kernel
theorem dX6_copy_43 : decode cX6_copy 43 = .ok (.invokevirtual 149, 3) := by decide +kernel
theorem dX6_copy_46 : decode cX6_copy 46 = .ok (.ifCond .eq 6, 3) := by decide +kernel
theorem dX6_copy_49 : decode cX6_copy 49 = .ok (.bipush (-11), 2) := by decide +kernel
theorem dX6_copy_51 : decode cX6_copy 51 = .ok (.ireturn, 1) := by decide +kernel
theorem dX6_copy_52 : decode cX6_copy 52 = .ok (.aload 6, 2) := by decide +kernel
theorem dX6_copy_54 : decode cX6_copy 54 = .ok (.getfield 233, 3) := by decide +kernel
theorem dX6_copy_57 : decode cX6_copy 57 = .ok (.aload 7, 2) := by decide +kernel
theorem dX6_copy_59 : decode cX6_copy 59 = .ok (.getfield 233, 3) := by decide +kernel
theorem dX6_copy_62 : decode cX6_copy 62 = .ok (.if_icmp .eq 6, 3) := by decide +kernel
theorem dX6_copy_65 : decode cX6_copy 65 = .ok (.bipush (-13), 2) := by decide +kernel
theorem dX6_copy_67 : decode cX6_copy 67 = .ok (.ireturn, 1) := by decide +kernel
theorem dX6_copy_68 : decode cX6_copy 68 = .ok (.aload 6, 2) := by decide +kernel
theorem dX6_copy_70 : decode cX6_copy 70 = .ok (.iload_n 2, 1) := by decide +kernel
theorem dX6_copy_71 : decode cX6_copy 71 = .ok (.iload 5, 2) := by decide +kernel
theorem dX6_copy_73 : decode cX6_copy 73 = .ok (.invokevirtual 230, 3) := by decide +kernel
theorem dX6_copy_76 : decode cX6_copy 76 = .ok (.ifCond .eq 15, 3) := by decide +kernel
theorem dX6_copy_79 : decode cX6_copy 79 = .ok (.aload 7, 2) := by decide +kernel
theorem dX6_copy_81 : decode cX6_copy 81 = .ok (.iload 4, 2) := by decide +kernel
theorem dX6_copy_83 : decode cX6_copy 83 = .ok (.iload 5, 2) := by decide +kernel
theorem dX6_copy_85 : decode cX6_copy 85 = .ok (.invokevirtual 230, 3) := by decide +kernel
theorem dX6_copy_88 : decode cX6_copy 88 = .ok (.ifCond .ne 6, 3) := by decide +kernel
theorem dX6_copy_91 : decode cX6_copy 91 = .ok (.bipush (-12), 2) := by decide +kernel
theorem dX6_copy_93 : decode cX6_copy 93 = .ok (.ireturn, 1) := by decide +kernel
theorem dX6_copy_94 : decode cX6_copy 94 = .ok (.aload 6, 2) := by decide +kernel
theorem dX6_copy_96 : decode cX6_copy 96 = .ok (.getfield 157, 3) := by decide +kernel
theorem dX6_copy_99 : decode cX6_copy 99 = .ok (.iload_n 2, 1) := by decide +kernel
theorem dX6_copy_100 : decode cX6_copy 100 = .ok (.aload 7, 2) := by decide +kernel
theorem dX6_copy_102 : decode cX6_copy 102 = .ok (.getfield 157, 3) := by decide +kernel
theorem dX6_copy_105 : decode cX6_copy 105 = .ok (.iload 4, 2) := by decide +kernel
theorem dX6_copy_107 : decode cX6_copy 107 = .ok (.iload 5, 2) := by decide +kernel
theorem dX6_copy_109 : decode cX6_copy 109 = .ok (.invokestatic 236, 3) := by decide +kernel
theorem dX6_copy_112 : decode cX6_copy 112 = .ok (.iload 5, 2) := by decide +kernel
theorem dX6_copy_114 : decode cX6_copy 114 = .ok (.ireturn, 1) := by decide +kernel
theorem dX6_finds_0 : decode cX6_finds 0 = .ok (.iload_n 1, 1) := by decide +kernel
theorem dX6_finds_1 : decode cX6_finds 1 = .ok (.invokestatic 146, 3) := by decide +kernel
theorem dX6_finds_4 : decode cX6_finds 4 = .ok (.ifCond .eq 23, 3) := by decide +kernel
theorem dX6_finds_7 : decode cX6_finds 7 = .ok (.iload_n 2, 1) := by decide +kernel
theorem dX6_finds_8 : decode cX6_finds 8 = .ok (.iconst 0, 1) := by decide +kernel
theorem dX6_finds_9 : decode cX6_finds 9 = .ok (.iconst 2, 1) := by decide +kernel
theorem dX6_finds_10 : decode cX6_finds 10 = .ok (.invokestatic 56, 3) := by decide +kernel
theorem dX6_finds_13 : decode cX6_finds 13 = .ok (.ifCond .eq 14, 3) := by decide +kernel
theorem dX6_finds_16 : decode cX6_finds 16 = .ok (.iload 4, 2) := by decide +kernel
theorem dX6_finds_18 : decode cX6_finds 18 = .ok (.iconst 0, 1) := by decide +kernel
theorem dX6_finds_19 : decode cX6_finds 19 = .ok (.bipush 8, 2) := by decide +kernel
theorem dX6_finds_21 : decode cX6_finds 21 = .ok (.invokestatic 56, 3) := by decide +kernel
theorem dX6_finds_24 : decode cX6_finds 24 = .ok (.ifCond .ne 6, 3) := by decide +kernel
theorem dX6_finds_27 : decode cX6_finds 27 = .ok (.bipush (-2), 2) := by decide +kernel
theorem dX6_finds_29 : decode cX6_finds 29 = .ok (.ireturn, 1) := by decide +kernel
theorem dX6_finds_30 : decode cX6_finds 30 = .ok (.aload_n 0, 1) := by decide +kernel
theorem dX6_finds_31 : decode cX6_finds 31 = .ok (.getfield 47, 3) := by decide +kernel
theorem dX6_finds_34 : decode cX6_finds 34 = .ok (.iload_n 1, 1) := by decide +kernel
theorem dX6_finds_35 : decode cX6_finds 35 = .ok (.aaload, 1) := by decide +kernel
theorem dX6_finds_36 : decode cX6_finds 36 = .ok (.astore 5, 2) := by decide +kernel
theorem dX6_finds_38 : decode cX6_finds 38 = .ok (.aload 5, 2) := by decide +kernel
theorem dX6_finds_40 : decode cX6_finds 40 = .ok (.invokevirtual 149, 3) := by decide +kernel
theorem dX6_finds_43 : decode cX6_finds 43 = .ok (.ifCond .eq 6, 3) := by decide +kernel
theorem dX6_finds_46 : decode cX6_finds 46 = .ok (.bipush (-11), 2) := by decide +kernel
theorem dX6_finds_48 : decode cX6_finds 48 = .ok (.ireturn, 1) := by decide +kernel
theorem dX6_finds_49 : decode cX6_finds 49 = .ok (.aload 5, 2) := by decide +kernel
theorem dX6_finds_51 : decode cX6_finds 51 = .ok (.getfield 233, 3) := by decide +kernel
theorem dX6_finds_54 : decode cX6_finds 54 = .ok (.iload_n 2, 1) := by decide +kernel
theorem dX6_finds_55 : decode cX6_finds 55 = .ok (.if_icmp .eq 6, 3) := by decide +kernel
theorem dX6_finds_58 : decode cX6_finds 58 = .ok (.bipush (-13), 2) := by decide +kernel
theorem dX6_finds_60 : decode cX6_finds 60 = .ok (.ireturn, 1) := by decide +kernel
theorem dX6_finds_61 : decode cX6_finds 61 = .ok (.iconst 0, 1) := by decide +kernel
theorem dX6_finds_62 : decode cX6_finds 62 = .ok (.istore 6, 2) := by decide +kernel
theorem dX6_finds_64 : decode cX6_finds 64 = .ok (.iload_n 3, 1) := by decide +kernel
theorem dX6_finds_65 : decode cX6_finds 65 = .ok (.istore 7, 2) := by decide +kernel
theorem dX6_finds_67 : decode cX6_finds 67 = .ok (.iconst 0, 1) := by decide +kernel
theorem dX6_finds_68 : decode cX6_finds 68 = .ok (.istore 8, 2) := by decide +kernel
theorem dX6_finds_70 : decode cX6_finds 70 = .ok (.iload 8, 2) := by decide +kernel
