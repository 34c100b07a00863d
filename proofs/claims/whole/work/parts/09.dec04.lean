theorem dX7_keep_0 : decode cX7_keep 0 = .ok (.iconst 0, 1) := by decide +kernel
theorem dX7_keep_1 : decode cX7_keep 1 = .ok (.istore_n 2, 1) := by decide +kernel
theorem dX7_keep_2 : decode cX7_keep 2 = .ok (.iload_n 2, 1) := by decide +kernel
theorem dX7_keep_3 : decode cX7_keep 3 = .ok (.bipush 43, 2) := by decide +kernel
theorem dX7_keep_5 : decode cX7_keep 5 = .ok (.if_icmp .ge 18, 3) := by decide +kernel
theorem dX7_keep_8 : decode cX7_keep 8 = .ok (.aload_n 1, 1) := by decide +kernel
theorem dX7_keep_9 : decode cX7_keep 9 = .ok (.iload_n 2, 1) := by decide +kernel
theorem dX7_keep_10 : decode cX7_keep 10 = .ok (.aload_n 0, 1) := by decide +kernel
theorem dX7_keep_11 : decode cX7_keep 11 = .ok (.getfield 7, 3) := by decide +kernel
theorem dX7_keep_14 : decode cX7_keep 14 = .ok (.iload_n 2, 1) := by decide +kernel
theorem dX7_keep_15 : decode cX7_keep 15 = .ok (.iaload, 1) := by decide +kernel
theorem dX7_keep_16 : decode cX7_keep 16 = .ok (.iastore, 1) := by decide +kernel
theorem dX7_keep_17 : decode cX7_keep 17 = .ok (.iinc 2 1, 3) := by decide +kernel
theorem dX7_keep_20 : decode cX7_keep 20 = .ok (.goto (-18), 3) := by decide +kernel
theorem dX7_keep_23 : decode cX7_keep 23 = .ok (.return_, 1) := by decide +kernel
theorem dX7_lay_0 : decode cX7_lay 0 = .ok (.iconst 0, 1) := by decide +kernel
theorem dX7_lay_1 : decode cX7_lay 1 = .ok (.istore_n 2, 1) := by decide +kernel
theorem dX7_lay_2 : decode cX7_lay 2 = .ok (.iload_n 2, 1) := by decide +kernel
theorem dX7_lay_3 : decode cX7_lay 3 = .ok (.bipush 43, 2) := by decide +kernel
theorem dX7_lay_5 : decode cX7_lay 5 = .ok (.if_icmp .ge 18, 3) := by decide +kernel
theorem dX7_lay_8 : decode cX7_lay 8 = .ok (.aload_n 0, 1) := by decide +kernel
theorem dX7_lay_9 : decode cX7_lay 9 = .ok (.getfield 7, 3) := by decide +kernel
theorem dX7_lay_12 : decode cX7_lay 12 = .ok (.iload_n 2, 1) := by decide +kernel
theorem dX7_lay_13 : decode cX7_lay 13 = .ok (.aload_n 1, 1) := by decide +kernel
theorem dX7_lay_14 : decode cX7_lay 14 = .ok (.iload_n 2, 1) := by decide +kernel
theorem dX7_lay_15 : decode cX7_lay 15 = .ok (.iaload, 1) := by decide +kernel
theorem dX7_lay_16 : decode cX7_lay 16 = .ok (.iastore, 1) := by decide +kernel
theorem dX7_lay_17 : decode cX7_lay 17 = .ok (.iinc 2 1, 3) := by decide +kernel
theorem dX7_lay_20 : decode cX7_lay 20 = .ok (.goto (-18), 3) := by decide +kernel
theorem dX7_lay_23 : decode cX7_lay 23 = .ok (.return_, 1) := by decide +kernel
theorem dX7_many_0 : decode cX7_many 0 = .ok (.aload_n 0, 1) := by decide +kernel
theorem dX7_many_1 : decode cX7_many 1 = .ok (.getfield 7, 3) := by decide +kernel
theorem dX7_many_4 : decode cX7_many 4 = .ok (.bipush 40, 2) := by decide +kernel
theorem dX7_many_6 : decode cX7_many 6 = .ok (.iaload, 1) := by decide +kernel
theorem dX7_many_7 : decode cX7_many 7 = .ok (.ireturn, 1) := by decide +kernel
theorem dX7_isPiece_0 : decode cX7_isPiece 0 = .ok (.iload_n 1, 1) := by decide +kernel
theorem dX7_isPiece_1 : decode cX7_isPiece 1 = .ok (.iconst 0, 1) := by decide +kernel
theorem dX7_isPiece_2 : decode cX7_isPiece 2 = .ok (.aload_n 0, 1) := by decide +kernel
theorem dX7_isPiece_3 : decode cX7_isPiece 3 = .ok (.getfield 7, 3) := by decide +kernel
theorem dX7_isPiece_6 : decode cX7_isPiece 6 = .ok (.bipush 40, 2) := by decide +kernel
theorem dX7_isPiece_8 : decode cX7_isPiece 8 = .ok (.iaload, 1) := by decide +kernel
theorem dX7_isPiece_9 : decode cX7_isPiece 9 = .ok (.iconst 1, 1) := by decide +kernel
theorem dX7_isPiece_10 : decode cX7_isPiece 10 = .ok (.isub, 1) := by decide +kernel
theorem dX7_isPiece_11 : decode cX7_isPiece 11 = .ok (.invokestatic 86, 3) := by decide +kernel
theorem dX7_isPiece_14 : decode cX7_isPiece 14 = .ok (.ireturn, 1) := by decide +kernel
theorem dX7_of_0 : decode cX7_of 0 = .ok (.aload_n 0, 1) := by decide +kernel
theorem dX7_of_1 : decode cX7_of 1 = .ok (.getfield 7, 3) := by decide +kernel
theorem dX7_of_4 : decode cX7_of 4 = .ok (.iconst 5, 1) := by decide +kernel
theorem dX7_of_5 : decode cX7_of 5 = .ok (.iload_n 1, 1) := by decide +kernel
theorem dX7_of_6 : decode cX7_of 6 = .ok (.imul, 1) := by decide +kernel
theorem dX7_of_7 : decode cX7_of 7 = .ok (.iload_n 2, 1) := by decide +kernel
theorem dX7_of_8 : decode cX7_of 8 = .ok (.iadd, 1) := by decide +kernel
theorem dX7_of_9 : decode cX7_of 9 = .ok (.iaload, 1) := by decide +kernel
theorem dX7_of_10 : decode cX7_of 10 = .ok (.ireturn, 1) := by decide +kernel
theorem dX7_change_0 : decode cX7_change 0 = .ok (.aload_n 0, 1) := by decide +kernel
theorem dX7_change_1 : decode cX7_change 1 = .ok (.getfield 7, 3) := by decide +kernel
theorem dX7_change_4 : decode cX7_change 4 = .ok (.iconst 5, 1) := by decide +kernel
theorem dX7_change_5 : decode cX7_change 5 = .ok (.iload_n 1, 1) := by decide +kernel
theorem dX7_change_6 : decode cX7_change 6 = .ok (.imul, 1) := by decide +kernel
theorem dX7_change_7 : decode cX7_change 7 = .ok (.iload_n 2, 1) := by decide +kernel
theorem dX7_change_8 : decode cX7_change 8 = .ok (.iadd, 1) := by decide +kernel
theorem dX7_change_9 : decode cX7_change 9 = .ok (.iload_n 3, 1) := by decide +kernel
theorem dX7_change_10 : decode cX7_change 10 = .ok (.iastore, 1) := by decide +kernel
theorem dX7_change_11 : decode cX7_change 11 = .ok (.return_, 1) := by decide +kernel
theorem dX7_apart_0 : decode cX7_apart 0 = .ok (.iload_n 0, 1) := by decide +kernel
theorem dX7_apart_1 : decode cX7_apart 1 = .ok (.iload_n 1, 1) := by decide +kernel
theorem dX7_apart_2 : decode cX7_apart 2 = .ok (.isub, 1) := by decide +kernel
theorem dX7_apart_3 : decode cX7_apart 3 = .ok (.invokestatic 90, 3) := by decide +kernel
theorem dX7_apart_6 : decode cX7_apart 6 = .ok (.istore_n 2, 1) := by decide +kernel
theorem dX7_apart_7 : decode cX7_apart 7 = .ok (.iload_n 2, 1) := by decide +kernel
theorem dX7_apart_8 : decode cX7_apart 8 = .ok (.bipush 12, 2) := by decide +kernel
theorem dX7_apart_10 : decode cX7_apart 10 = .ok (.iload_n 2, 1) := by decide +kernel
theorem dX7_apart_11 : decode cX7_apart 11 = .ok (.isub, 1) := by decide +kernel
theorem dX7_apart_12 : decode cX7_apart 12 = .ok (.invokestatic 77, 3) := by decide +kernel
theorem dX7_apart_15 : decode cX7_apart 15 = .ok (.ireturn, 1) := by decide +kernel
theorem dX7_place_0 : decode cX7_place 0 = .ok (.iload_n 1, 1) := by decide +kernel
theorem dX7_place_1 : decode cX7_place 1 = .ok (.ifCond .ne 8, 3) := by decide +kernel
theorem dX7_place_4 : decode cX7_place 4 = .ok (.bipush 41, 2) := by decide +kernel
theorem dX7_place_6 : decode cX7_place 6 = .ok (.goto 20, 3) := by decide +kernel
theorem dX7_place_9 : decode cX7_place 9 = .ok (.aload_n 0, 1) := by decide +kernel
theorem dX7_place_10 : decode cX7_place 10 = .ok (.iload_n 2, 1) := by decide +kernel
theorem dX7_place_11 : decode cX7_place 11 = .ok (.invokevirtual 94, 3) := by decide +kernel
theorem dX7_place_14 : decode cX7_place 14 = .ok (.ifCond .eq 11, 3) := by decide +kernel
theorem dX7_place_17 : decode cX7_place 17 = .ok (.iconst 5, 1) := by decide +kernel
theorem dX7_place_18 : decode cX7_place 18 = .ok (.iload_n 2, 1) := by decide +kernel
theorem dX7_place_19 : decode cX7_place 19 = .ok (.imul, 1) := by decide +kernel
theorem dX7_place_20 : decode cX7_place 20 = .ok (.iload_n 1, 1) := by decide +kernel
theorem dX7_place_21 : decode cX7_place 21 = .ok (.iadd, 1) := by decide +kernel
theorem dX7_place_22 : decode cX7_place 22 = .ok (.goto 4, 3) := by decide +kernel
theorem dX7_place_25 : decode cX7_place 25 = .ok (.iconst (-1), 1) := by decide +kernel
theorem dX7_place_26 : decode cX7_place 26 = .ok (.ireturn, 1) := by decide +kernel
theorem dX7_set_0 : decode cX7_set 0 = .ok (.iload_n 1, 1) := by decide +kernel
theorem dX7_set_1 : decode cX7_set 1 = .ok (.ifCond .ne 9, 3) := by decide +kernel
theorem dX7_set_4 : decode cX7_set 4 = .ok (.sipush 999, 3) := by decide +kernel
theorem dX7_set_7 : decode cX7_set 7 = .ok (.goto 34, 3) := by decide +kernel
theorem dX7_set_10 : decode cX7_set 10 = .ok (.iload_n 1, 1) := by decide +kernel
theorem dX7_set_11 : decode cX7_set 11 = .ok (.iconst 1, 1) := by decide +kernel
theorem dX7_set_12 : decode cX7_set 12 = .ok (.if_icmp .ne 8, 3) := by decide +kernel
theorem dX7_set_15 : decode cX7_set 15 = .ok (.bipush 9, 2) := by decide +kernel
theorem dX7_set_17 : decode cX7_set 17 = .ok (.goto 24, 3) := by decide +kernel
theorem dX7_set_20 : decode cX7_set 20 = .ok (.iload_n 1, 1) := by decide +kernel
theorem dX7_set_21 : decode cX7_set 21 = .ok (.iconst 2, 1) := by decide +kernel
theorem dX7_set_22 : decode cX7_set 22 = .ok (.if_icmp .ne 8, 3) := by decide +kernel
theorem dX7_set_25 : decode cX7_set 25 = .ok (.bipush 99, 2) := by decide +kernel
theorem dX7_set_27 : decode cX7_set 27 = .ok (.goto 14, 3) := by decide +kernel
theorem dX7_set_30 : decode cX7_set 30 = .ok (.iload_n 1, 1) := by decide +kernel
theorem dX7_set_31 : decode cX7_set 31 = .ok (.iconst 3, 1) := by decide +kernel
theorem dX7_set_32 : decode cX7_set 32 = .ok (.if_icmp .ne 8, 3) := by decide +kernel
theorem dX7_set_35 : decode cX7_set 35 = .ok (.bipush 11, 2) := by decide +kernel
theorem dX7_set_37 : decode cX7_set 37 = .ok (.goto 4, 3) := by decide +kernel
theorem dX7_set_40 : decode cX7_set 40 = .ok (.iconst 1, 1) := by decide +kernel
theorem dX7_set_41 : decode cX7_set 41 = .ok (.istore 4, 2) := by decide +kernel
theorem dX7_set_43 : decode cX7_set 43 = .ok (.iload_n 1, 1) := by decide +kernel
theorem dX7_set_44 : decode cX7_set 44 = .ok (.iconst 0, 1) := by decide +kernel
theorem dX7_set_45 : decode cX7_set 45 = .ok (.iconst 4, 1) := by decide +kernel
theorem dX7_set_46 : decode cX7_set 46 = .ok (.invokestatic 86, 3) := by decide +kernel
theorem dX7_set_49 : decode cX7_set 49 = .ok (.ifCond .eq 23, 3) := by decide +kernel
theorem dX7_set_52 : decode cX7_set 52 = .ok (.iload_n 3, 1) := by decide +kernel
theorem dX7_set_53 : decode cX7_set 53 = .ok (.iconst 0, 1) := by decide +kernel
theorem dX7_set_54 : decode cX7_set 54 = .ok (.iload 4, 2) := by decide +kernel
theorem dX7_set_56 : decode cX7_set 56 = .ok (.invokestatic 86, 3) := by decide +kernel
theorem dX7_set_59 : decode cX7_set 59 = .ok (.ifCond .eq 13, 3) := by decide +kernel
theorem dX7_set_62 : decode cX7_set 62 = .ok (.aload_n 0, 1) := by decide +kernel
theorem dX7_set_63 : decode cX7_set 63 = .ok (.iload_n 1, 1) := by decide +kernel
theorem dX7_set_64 : decode cX7_set 64 = .ok (.iload_n 2, 1) := by decide +kernel
theorem dX7_set_65 : decode cX7_set 65 = .ok (.invokevirtual 98, 3) := by decide +kernel
theorem dX7_set_68 : decode cX7_set 68 = .ok (.iconst (-1), 1) := by decide +kernel
theorem dX7_set_69 : decode cX7_set 69 = .ok (.if_icmp .ne 6, 3) := by decide +kernel
theorem dX7_set_72 : decode cX7_set 72 = .ok (.bipush (-2), 2) := by decide +kernel
theorem dX7_set_74 : decode cX7_set 74 = .ok (.ireturn, 1) := by decide +kernel
theorem dX7_set_75 : decode cX7_set 75 = .ok (.aload_n 0, 1) := by decide +kernel
theorem dX7_set_76 : decode cX7_set 76 = .ok (.getfield 7, 3) := by decide +kernel
theorem dX7_set_79 : decode cX7_set 79 = .ok (.aload_n 0, 1) := by decide +kernel
theorem dX7_set_80 : decode cX7_set 80 = .ok (.iload_n 1, 1) := by decide +kernel
theorem dX7_set_81 : decode cX7_set 81 = .ok (.iload_n 2, 1) := by decide +kernel
theorem dX7_set_82 : decode cX7_set 82 = .ok (.invokevirtual 98, 3) := by decide +kernel
theorem dX7_set_85 : decode cX7_set 85 = .ok (.iaload, 1) := by decide +kernel
theorem dX7_set_86 : decode cX7_set 86 = .ok (.istore 5, 2) := by decide +kernel
theorem dX7_set_88 : decode cX7_set 88 = .ok (.aload_n 0, 1) := by decide +kernel
theorem dX7_set_89 : decode cX7_set 89 = .ok (.getfield 7, 3) := by decide +kernel
theorem dX7_set_92 : decode cX7_set 92 = .ok (.aload_n 0, 1) := by decide +kernel
theorem dX7_set_93 : decode cX7_set 93 = .ok (.iload_n 1, 1) := by decide +kernel
theorem dX7_set_94 : decode cX7_set 94 = .ok (.iload_n 2, 1) := by decide +kernel
theorem dX7_set_95 : decode cX7_set 95 = .ok (.invokevirtual 98, 3) := by decide +kernel
theorem dX7_set_98 : decode cX7_set 98 = .ok (.iload_n 3, 1) := by decide +kernel
theorem dX7_set_99 : decode cX7_set 99 = .ok (.iastore, 1) := by decide +kernel
theorem dX7_set_100 : decode cX7_set 100 = .ok (.iload 5, 2) := by decide +kernel
theorem dX7_set_102 : decode cX7_set 102 = .ok (.ireturn, 1) := by decide +kernel
theorem dX7_piece_0 : decode cX7_piece 0 = .ok (.iload_n 1, 1) := by decide +kernel
theorem dX7_piece_1 : decode cX7_piece 1 = .ok (.iconst 0, 1) := by decide +kernel
theorem dX7_piece_2 : decode cX7_piece 2 = .ok (.iconst 5, 1) := by decide +kernel
theorem dX7_piece_3 : decode cX7_piece 3 = .ok (.invokestatic 86, 3) := by decide +kernel
theorem dX7_piece_6 : decode cX7_piece 6 = .ok (.ifCond .eq 46, 3) := by decide +kernel
theorem dX7_piece_9 : decode cX7_piece 9 = .ok (.iload_n 2, 1) := by decide +kernel
theorem dX7_piece_10 : decode cX7_piece 10 = .ok (.iconst 0, 1) := by decide +kernel
theorem dX7_piece_11 : decode cX7_piece 11 = .ok (.bipush 9, 2) := by decide +kernel
theorem dX7_piece_13 : decode cX7_piece 13 = .ok (.invokestatic 86, 3) := by decide +kernel
theorem dX7_piece_16 : decode cX7_piece 16 = .ok (.ifCond .eq 36, 3) := by decide +kernel
theorem dX7_piece_19 : decode cX7_piece 19 = .ok (.iload_n 3, 1) := by decide +kernel
theorem dX7_piece_20 : decode cX7_piece 20 = .ok (.iconst 0, 1) := by decide +kernel
theorem dX7_piece_21 : decode cX7_piece 21 = .ok (.bipush 99, 2) := by decide +kernel
theorem dX7_piece_23 : decode cX7_piece 23 = .ok (.invokestatic 86, 3) := by decide +kernel
theorem dX7_piece_26 : decode cX7_piece 26 = .ok (.ifCond .eq 26, 3) := by decide +kernel
theorem dX7_piece_29 : decode cX7_piece 29 = .ok (.iload 4, 2) := by decide +kernel
theorem dX7_piece_31 : decode cX7_piece 31 = .ok (.iconst 0, 1) := by decide +kernel
theorem dX7_piece_32 : decode cX7_piece 32 = .ok (.bipush 11, 2) := by decide +kernel
theorem dX7_piece_34 : decode cX7_piece 34 = .ok (.invokestatic 86, 3) := by decide +kernel
theorem dX7_piece_37 : decode cX7_piece 37 = .ok (.ifCond .ne 18, 3) := by decide +kernel
theorem dX7_piece_40 : decode cX7_piece 40 = .ok (.iload 4, 2) := by decide +kernel
theorem dX7_piece_42 : decode cX7_piece 42 = .ok (.bipush 100, 2) := by decide +kernel
theorem dX7_piece_44 : decode cX7_piece 44 = .ok (.bipush 111, 2) := by decide +kernel
theorem dX7_piece_46 : decode cX7_piece 46 = .ok (.invokestatic 86, 3) := by decide +kernel
theorem dX7_piece_49 : decode cX7_piece 49 = .ok (.ifCond .ne 6, 3) := by decide +kernel
theorem dX7_piece_52 : decode cX7_piece 52 = .ok (.bipush (-2), 2) := by decide +kernel
theorem dX7_piece_54 : decode cX7_piece 54 = .ok (.ireturn, 1) := by decide +kernel
theorem dX7_piece_55 : decode cX7_piece 55 = .ok (.aload_n 0, 1) := by decide +kernel
theorem dX7_piece_56 : decode cX7_piece 56 = .ok (.invokevirtual 101, 3) := by decide +kernel
theorem dX7_piece_59 : decode cX7_piece 59 = .ok (.bipush 8, 2) := by decide +kernel
theorem dX7_piece_61 : decode cX7_piece 61 = .ok (.if_icmp .ne 6, 3) := by decide +kernel
theorem dX7_piece_64 : decode cX7_piece 64 = .ok (.bipush (-4), 2) := by decide +kernel
theorem dX7_piece_66 : decode cX7_piece 66 = .ok (.ireturn, 1) := by decide +kernel
theorem dX7_piece_67 : decode cX7_piece 67 = .ok (.aload_n 0, 1) := by decide +kernel
theorem dX7_piece_68 : decode cX7_piece 68 = .ok (.invokevirtual 101, 3) := by decide +kernel
theorem dX7_piece_71 : decode cX7_piece 71 = .ok (.istore 5, 2) := by decide +kernel
theorem dX7_piece_73 : decode cX7_piece 73 = .ok (.aload_n 0, 1) := by decide +kernel
theorem dX7_piece_74 : decode cX7_piece 74 = .ok (.iload 5, 2) := by decide +kernel
theorem dX7_piece_76 : decode cX7_piece 76 = .ok (.iconst 0, 1) := by decide +kernel
theorem dX7_piece_77 : decode cX7_piece 77 = .ok (.iload_n 1, 1) := by decide +kernel
theorem dX7_piece_78 : decode cX7_piece 78 = .ok (.invokevirtual 104, 3) := by decide +kernel
theorem dX7_piece_81 : decode cX7_piece 81 = .ok (.aload_n 0, 1) := by decide +kernel
theorem dX7_piece_82 : decode cX7_piece 82 = .ok (.iload 5, 2) := by decide +kernel
theorem dX7_piece_84 : decode cX7_piece 84 = .ok (.iconst 1, 1) := by decide +kernel
theorem dX7_piece_85 : decode cX7_piece 85 = .ok (.iload_n 2, 1) := by decide +kernel
theorem dX7_piece_86 : decode cX7_piece 86 = .ok (.invokevirtual 104, 3) := by decide +kernel
theorem dX7_piece_89 : decode cX7_piece 89 = .ok (.aload_n 0, 1) := by decide +kernel
theorem dX7_piece_90 : decode cX7_piece 90 = .ok (.iload 5, 2) := by decide +kernel
theorem dX7_piece_92 : decode cX7_piece 92 = .ok (.iconst 2, 1) := by decide +kernel
theorem dX7_piece_93 : decode cX7_piece 93 = .ok (.iload_n 3, 1) := by decide +kernel
theorem dX7_piece_94 : decode cX7_piece 94 = .ok (.invokevirtual 104, 3) := by decide +kernel
theorem dX7_piece_97 : decode cX7_piece 97 = .ok (.aload_n 0, 1) := by decide +kernel
theorem dX7_piece_98 : decode cX7_piece 98 = .ok (.iload 5, 2) := by decide +kernel
theorem dX7_piece_100 : decode cX7_piece 100 = .ok (.iconst 3, 1) := by decide +kernel
theorem dX7_piece_101 : decode cX7_piece 101 = .ok (.iload 4, 2) := by decide +kernel
theorem dX7_piece_103 : decode cX7_piece 103 = .ok (.bipush 100, 2) := by decide +kernel
theorem dX7_piece_105 : decode cX7_piece 105 = .ok (.irem, 1) := by decide +kernel
theorem dX7_piece_106 : decode cX7_piece 106 = .ok (.invokevirtual 104, 3) := by decide +kernel
theorem dX7_piece_109 : decode cX7_piece 109 = .ok (.aload_n 0, 1) := by decide +kernel
theorem dX7_piece_110 : decode cX7_piece 110 = .ok (.iload 5, 2) := by decide +kernel
theorem dX7_piece_112 : decode cX7_piece 112 = .ok (.iconst 4, 1) := by decide +kernel
theorem dX7_piece_113 : decode cX7_piece 113 = .ok (.iload 4, 2) := by decide +kernel
theorem dX7_piece_115 : decode cX7_piece 115 = .ok (.bipush 100, 2) := by decide +kernel
theorem dX7_piece_117 : decode cX7_piece 117 = .ok (.idiv, 1) := by decide +kernel
theorem dX7_piece_118 : decode cX7_piece 118 = .ok (.invokevirtual 104, 3) := by decide +kernel
theorem dX7_piece_121 : decode cX7_piece 121 = .ok (.aload_n 0, 1) := by decide +kernel
theorem dX7_piece_122 : decode cX7_piece 122 = .ok (.getfield 7, 3) := by decide +kernel
theorem dX7_piece_125 : decode cX7_piece 125 = .ok (.bipush 40, 2) := by decide +kernel
theorem dX7_piece_127 : decode cX7_piece 127 = .ok (.dup2, 1) := by decide +kernel
theorem dX7_piece_128 : decode cX7_piece 128 = .ok (.iaload, 1) := by decide +kernel
theorem dX7_piece_129 : decode cX7_piece 129 = .ok (.iconst 1, 1) := by decide +kernel
theorem dX7_piece_130 : decode cX7_piece 130 = .ok (.iadd, 1) := by decide +kernel
theorem dX7_piece_131 : decode cX7_piece 131 = .ok (.iastore, 1) := by decide +kernel
theorem dX7_piece_132 : decode cX7_piece 132 = .ok (.iload 5, 2) := by decide +kernel
theorem dX7_piece_134 : decode cX7_piece 134 = .ok (.ireturn, 1) := by decide +kernel
theorem dX7_lying_0 : decode cX7_lying 0 = .ok (.iconst 0, 1) := by decide +kernel
theorem dX7_lying_1 : decode cX7_lying 1 = .ok (.istore_n 2, 1) := by decide +kernel
theorem dX7_lying_2 : decode cX7_lying 2 = .ok (.iconst 0, 1) := by decide +kernel
theorem dX7_lying_3 : decode cX7_lying 3 = .ok (.istore_n 3, 1) := by decide +kernel
theorem dX7_lying_4 : decode cX7_lying 4 = .ok (.iload_n 3, 1) := by decide +kernel
theorem dX7_lying_5 : decode cX7_lying 5 = .ok (.aload_n 0, 1) := by decide +kernel
theorem dX7_lying_6 : decode cX7_lying 6 = .ok (.invokevirtual 101, 3) := by decide +kernel
theorem dX7_lying_9 : decode cX7_lying 9 = .ok (.if_icmp .ge 29, 3) := by decide +kernel
theorem dX7_lying_12 : decode cX7_lying 12 = .ok (.iload_n 2, 1) := by decide +kernel
theorem dX7_lying_13 : decode cX7_lying 13 = .ok (.aload_n 0, 1) := by decide +kernel
theorem dX7_lying_14 : decode cX7_lying 14 = .ok (.iload_n 3, 1) := by decide +kernel
theorem dX7_lying_15 : decode cX7_lying 15 = .ok (.iconst 3, 1) := by decide +kernel
theorem dX7_lying_16 : decode cX7_lying 16 = .ok (.invokevirtual 108, 3) := by decide +kernel
theorem dX7_lying_19 : decode cX7_lying 19 = .ok (.iload_n 1, 1) := by decide +kernel
theorem dX7_lying_20 : decode cX7_lying 20 = .ok (.if_icmp .ne 9, 3) := by decide +kernel
theorem dX7_lying_23 : decode cX7_lying 23 = .ok (.iconst 1, 1) := by decide +kernel
theorem dX7_lying_24 : decode cX7_lying 24 = .ok (.iload_n 3, 1) := by decide +kernel
theorem dX7_lying_25 : decode cX7_lying 25 = .ok (.ishl, 1) := by decide +kernel
theorem dX7_lying_26 : decode cX7_lying 26 = .ok (.goto 4, 3) := by decide +kernel
theorem dX7_lying_29 : decode cX7_lying 29 = .ok (.iconst 0, 1) := by decide +kernel
theorem dX7_lying_30 : decode cX7_lying 30 = .ok (.ior, 1) := by decide +kernel
theorem dX7_lying_31 : decode cX7_lying 31 = .ok (.istore_n 2, 1) := by decide +kernel
theorem dX7_lying_32 : decode cX7_lying 32 = .ok (.iinc 3 1, 3) := by decide +kernel
theorem dX7_lying_35 : decode cX7_lying 35 = .ok (.goto (-31), 3) := by decide +kernel
theorem dX7_lying_38 : decode cX7_lying 38 = .ok (.iload_n 2, 1) := by decide +kernel
theorem dX7_lying_39 : decode cX7_lying 39 = .ok (.ireturn, 1) := by decide +kernel
theorem dX7_clashing_0 : decode cX7_clashing 0 = .ok (.iconst 0, 1) := by decide +kernel
theorem dX7_clashing_1 : decode cX7_clashing 1 = .ok (.istore_n 2, 1) := by decide +kernel
theorem dX7_clashing_2 : decode cX7_clashing 2 = .ok (.iconst 0, 1) := by decide +kernel
theorem dX7_clashing_3 : decode cX7_clashing 3 = .ok (.istore_n 3, 1) := by decide +kernel
theorem dX7_clashing_4 : decode cX7_clashing 4 = .ok (.iload_n 3, 1) := by decide +kernel
theorem dX7_clashing_5 : decode cX7_clashing 5 = .ok (.aload_n 0, 1) := by decide +kernel
theorem dX7_clashing_6 : decode cX7_clashing 6 = .ok (.invokevirtual 101, 3) := by decide +kernel
theorem dX7_clashing_9 : decode cX7_clashing 9 = .ok (.if_icmp .ge 33, 3) := by decide +kernel
theorem dX7_clashing_12 : decode cX7_clashing 12 = .ok (.iload_n 2, 1) := by decide +kernel
theorem dX7_clashing_13 : decode cX7_clashing 13 = .ok (.iload_n 3, 1) := by decide +kernel
theorem dX7_clashing_14 : decode cX7_clashing 14 = .ok (.iload_n 1, 1) := by decide +kernel
theorem dX7_clashing_15 : decode cX7_clashing 15 = .ok (.if_icmp .eq 18, 3) := by decide +kernel
theorem dX7_clashing_18 : decode cX7_clashing 18 = .ok (.aload_n 0, 1) := by decide +kernel
theorem dX7_clashing_19 : decode cX7_clashing 19 = .ok (.iload_n 1, 1) := by decide +kernel
theorem dX7_clashing_20 : decode cX7_clashing 20 = .ok (.iload_n 3, 1) := by decide +kernel
theorem dX7_clashing_21 : decode cX7_clashing 21 = .ok (.invokevirtual 111, 3) := by decide +kernel
theorem dX7_clashing_24 : decode cX7_clashing 24 = .ok (.ifCond .eq 9, 3) := by decide +kernel
theorem dX7_clashing_27 : decode cX7_clashing 27 = .ok (.iconst 1, 1) := by decide +kernel
theorem dX7_clashing_28 : decode cX7_clashing 28 = .ok (.iload_n 3, 1) := by decide +kernel
theorem dX7_clashing_29 : decode cX7_clashing 29 = .ok (.ishl, 1) := by decide +kernel
theorem dX7_clashing_30 : decode cX7_clashing 30 = .ok (.goto 4, 3) := by decide +kernel
theorem dX7_clashing_33 : decode cX7_clashing 33 = .ok (.iconst 0, 1) := by decide +kernel
theorem dX7_clashing_34 : decode cX7_clashing 34 = .ok (.ior, 1) := by decide +kernel
theorem dX7_clashing_35 : decode cX7_clashing 35 = .ok (.istore_n 2, 1) := by decide +kernel
theorem dX7_clashing_36 : decode cX7_clashing 36 = .ok (.iinc 3 1, 3) := by decide +kernel
theorem dX7_clashing_39 : decode cX7_clashing 39 = .ok (.goto (-35), 3) := by decide +kernel
theorem dX7_clashing_42 : decode cX7_clashing 42 = .ok (.iload_n 2, 1) := by decide +kernel
theorem dX7_clashing_43 : decode cX7_clashing 43 = .ok (.ireturn, 1) := by decide +kernel
theorem dX7_told_0 : decode cX7_told 0 = .ok (.iload_n 2, 1) := by decide +kernel
theorem dX7_told_1 : decode cX7_told 1 = .ok (.bipush 8, 2) := by decide +kernel
theorem dX7_told_3 : decode cX7_told 3 = .ok (.if_icmp .ne 24, 3) := by decide +kernel
theorem dX7_told_6 : decode cX7_told 6 = .ok (.iload_n 1, 1) := by decide +kernel
theorem dX7_told_7 : decode cX7_told 7 = .ok (.iconst 0, 1) := by decide +kernel
theorem dX7_told_8 : decode cX7_told 8 = .ok (.bipush 11, 2) := by decide +kernel
theorem dX7_told_10 : decode cX7_told 10 = .ok (.invokestatic 86, 3) := by decide +kernel
theorem dX7_told_13 : decode cX7_told 13 = .ok (.ifCond .eq 11, 3) := by decide +kernel
theorem dX7_told_16 : decode cX7_told 16 = .ok (.aload_n 0, 1) := by decide +kernel
theorem dX7_told_17 : decode cX7_told 17 = .ok (.iload_n 1, 1) := by decide +kernel
theorem dX7_told_18 : decode cX7_told 18 = .ok (.invokevirtual 115, 3) := by decide +kernel
theorem dX7_told_21 : decode cX7_told 21 = .ok (.goto 5, 3) := by decide +kernel
theorem dX7_told_24 : decode cX7_told 24 = .ok (.bipush (-2), 2) := by decide +kernel
theorem dX7_told_26 : decode cX7_told 26 = .ok (.ireturn, 1) := by decide +kernel
theorem dX7_told_27 : decode cX7_told 27 = .ok (.iload_n 2, 1) := by decide +kernel
theorem dX7_told_28 : decode cX7_told 28 = .ok (.iconst 0, 1) := by decide +kernel
theorem dX7_told_29 : decode cX7_told 29 = .ok (.bipush 7, 2) := by decide +kernel
theorem dX7_told_31 : decode cX7_told 31 = .ok (.invokestatic 86, 3) := by decide +kernel
theorem dX7_told_34 : decode cX7_told 34 = .ok (.ifCond .eq 15, 3) := by decide +kernel
theorem dX7_told_37 : decode cX7_told 37 = .ok (.iload_n 2, 1) := by decide +kernel
theorem dX7_told_38 : decode cX7_told 38 = .ok (.ifCond .le 14, 3) := by decide +kernel
theorem dX7_told_41 : decode cX7_told 41 = .ok (.aload_n 0, 1) := by decide +kernel
theorem dX7_told_42 : decode cX7_told 42 = .ok (.iload_n 1, 1) := by decide +kernel
theorem dX7_told_43 : decode cX7_told 43 = .ok (.invokevirtual 94, 3) := by decide +kernel
theorem dX7_told_46 : decode cX7_told 46 = .ok (.ifCond .ne 6, 3) := by decide +kernel
theorem dX7_told_49 : decode cX7_told 49 = .ok (.bipush (-2), 2) := by decide +kernel
theorem dX7_told_51 : decode cX7_told 51 = .ok (.ireturn, 1) := by decide +kernel
theorem dX7_told_52 : decode cX7_told 52 = .ok (.iload_n 2, 1) := by decide +kernel
theorem dX7_told_53 : decode cX7_told 53 = .ok (.iconst 5, 1) := by decide +kernel
theorem dX7_told_54 : decode cX7_told 54 = .ok (.if_icmp .ge 17, 3) := by decide +kernel
theorem dX7_told_57 : decode cX7_told 57 = .ok (.aload_n 0, 1) := by decide +kernel
theorem dX7_told_58 : decode cX7_told 58 = .ok (.getfield 7, 3) := by decide +kernel
theorem dX7_told_61 : decode cX7_told 61 = .ok (.aload_n 0, 1) := by decide +kernel
theorem dX7_told_62 : decode cX7_told 62 = .ok (.iload_n 2, 1) := by decide +kernel
theorem dX7_told_63 : decode cX7_told 63 = .ok (.iload_n 1, 1) := by decide +kernel
theorem dX7_told_64 : decode cX7_told 64 = .ok (.invokevirtual 98, 3) := by decide +kernel
theorem dX7_told_67 : decode cX7_told 67 = .ok (.iaload, 1) := by decide +kernel
theorem dX7_told_68 : decode cX7_told 68 = .ok (.goto 36, 3) := by decide +kernel
theorem dX7_told_71 : decode cX7_told 71 = .ok (.iload_n 2, 1) := by decide +kernel
theorem dX7_told_72 : decode cX7_told 72 = .ok (.iconst 5, 1) := by decide +kernel
theorem dX7_told_73 : decode cX7_told 73 = .ok (.if_icmp .ne 12, 3) := by decide +kernel
theorem dX7_told_76 : decode cX7_told 76 = .ok (.aload_n 0, 1) := by decide +kernel
theorem dX7_told_77 : decode cX7_told 77 = .ok (.iload_n 1, 1) := by decide +kernel
theorem dX7_told_78 : decode cX7_told 78 = .ok (.iconst 0, 1) := by decide +kernel
theorem dX7_told_79 : decode cX7_told 79 = .ok (.invokevirtual 108, 3) := by decide +kernel
theorem dX7_told_82 : decode cX7_told 82 = .ok (.goto 22, 3) := by decide +kernel
theorem dX7_told_85 : decode cX7_told 85 = .ok (.iload_n 2, 1) := by decide +kernel
theorem dX7_told_86 : decode cX7_told 86 = .ok (.bipush 6, 2) := by decide +kernel
theorem dX7_told_88 : decode cX7_told 88 = .ok (.if_icmp .ne 11, 3) := by decide +kernel
theorem dX7_told_91 : decode cX7_told 91 = .ok (.aload_n 0, 1) := by decide +kernel
theorem dX7_told_92 : decode cX7_told 92 = .ok (.iload_n 1, 1) := by decide +kernel
theorem dX7_told_93 : decode cX7_told 93 = .ok (.invokevirtual 118, 3) := by decide +kernel
theorem dX7_told_96 : decode cX7_told 96 = .ok (.goto 8, 3) := by decide +kernel
theorem dX7_told_99 : decode cX7_told 99 = .ok (.aload_n 0, 1) := by decide +kernel
theorem dX7_told_100 : decode cX7_told 100 = .ok (.iload_n 1, 1) := by decide +kernel
theorem dX7_told_101 : decode cX7_told 101 = .ok (.invokevirtual 121, 3) := by decide +kernel
theorem dX7_told_104 : decode cX7_told 104 = .ok (.ireturn, 1) := by decide +kernel
theorem dX7_carried_0 : decode cX7_carried 0 = .ok (.aload_n 0, 1) := by decide +kernel
theorem dX7_carried_1 : decode cX7_carried 1 = .ok (.iload_n 1, 1) := by decide +kernel
theorem dX7_carried_2 : decode cX7_carried 2 = .ok (.invokevirtual 94, 3) := by decide +kernel
theorem dX7_carried_5 : decode cX7_carried 5 = .ok (.ifCond .eq 11, 3) := by decide +kernel
theorem dX7_carried_8 : decode cX7_carried 8 = .ok (.aload_n 0, 1) := by decide +kernel
theorem dX7_carried_9 : decode cX7_carried 9 = .ok (.iload_n 1, 1) := by decide +kernel
theorem dX7_carried_10 : decode cX7_carried 10 = .ok (.invokevirtual 124, 3) := by decide +kernel
theorem dX7_carried_13 : decode cX7_carried 13 = .ok (.goto 6, 3) := by decide +kernel
theorem dX7_carried_16 : decode cX7_carried 16 = .ok (.sipush (-1000), 3) := by decide +kernel
theorem dX7_carried_19 : decode cX7_carried 19 = .ok (.ireturn, 1) := by decide +kernel
theorem dX7_firstText_0 : decode cX7_firstText 0 = .ok (.aload_n 0, 1) := by decide +kernel
theorem dX7_firstText_1 : decode cX7_firstText 1 = .ok (.getfield 22, 3) := by decide +kernel
theorem dX7_firstText_4 : decode cX7_firstText 4 = .ok (.iconst 0, 1) := by decide +kernel
theorem dX7_firstText_5 : decode cX7_firstText 5 = .ok (.iconst 2, 1) := by decide +kernel
theorem dX7_firstText_6 : decode cX7_firstText 6 = .ok (.iastore, 1) := by decide +kernel
theorem dX7_firstText_7 : decode cX7_firstText 7 = .ok (.aload_n 0, 1) := by decide +kernel
theorem dX7_firstText_8 : decode cX7_firstText 8 = .ok (.getfield 22, 3) := by decide +kernel
theorem dX7_firstText_11 : decode cX7_firstText 11 = .ok (.iconst 1, 1) := by decide +kernel
theorem dX7_firstText_12 : decode cX7_firstText 12 = .ok (.iconst 1, 1) := by decide +kernel
theorem dX7_firstText_13 : decode cX7_firstText 13 = .ok (.iastore, 1) := by decide +kernel
theorem dX7_firstText_14 : decode cX7_firstText 14 = .ok (.aload_n 0, 1) := by decide +kernel
theorem dX7_firstText_15 : decode cX7_firstText 15 = .ok (.getfield 22, 3) := by decide +kernel
theorem dX7_firstText_18 : decode cX7_firstText 18 = .ok (.iconst 2, 1) := by decide +kernel
theorem dX7_firstText_19 : decode cX7_firstText 19 = .ok (.iconst 1, 1) := by decide +kernel
theorem dX7_firstText_20 : decode cX7_firstText 20 = .ok (.iastore, 1) := by decide +kernel
theorem dX7_firstText_21 : decode cX7_firstText 21 = .ok (.aload_n 0, 1) := by decide +kernel
theorem dX7_firstText_22 : decode cX7_firstText 22 = .ok (.getfield 25, 3) := by decide +kernel
theorem dX7_firstText_25 : decode cX7_firstText 25 = .ok (.iconst 0, 1) := by decide +kernel
theorem dX7_firstText_26 : decode cX7_firstText 26 = .ok (.iconst 1, 1) := by decide +kernel
theorem dX7_firstText_27 : decode cX7_firstText 27 = .ok (.iastore, 1) := by decide +kernel
theorem dX7_firstText_28 : decode cX7_firstText 28 = .ok (.aload_n 0, 1) := by decide +kernel
theorem dX7_firstText_29 : decode cX7_firstText 29 = .ok (.getfield 25, 3) := by decide +kernel
theorem dX7_firstText_32 : decode cX7_firstText 32 = .ok (.iconst 1, 1) := by decide +kernel
theorem dX7_firstText_33 : decode cX7_firstText 33 = .ok (.iconst 2, 1) := by decide +kernel
theorem dX7_firstText_34 : decode cX7_firstText 34 = .ok (.iastore, 1) := by decide +kernel
theorem dX7_firstText_35 : decode cX7_firstText 35 = .ok (.aload_n 0, 1) := by decide +kernel
theorem dX7_firstText_36 : decode cX7_firstText 36 = .ok (.getfield 25, 3) := by decide +kernel
theorem dX7_firstText_39 : decode cX7_firstText 39 = .ok (.iconst 2, 1) := by decide +kernel
theorem dX7_firstText_40 : decode cX7_firstText 40 = .ok (.iconst 3, 1) := by decide +kernel
theorem dX7_firstText_41 : decode cX7_firstText 41 = .ok (.iastore, 1) := by decide +kernel
theorem dX7_firstText_42 : decode cX7_firstText 42 = .ok (.iconst 1, 1) := by decide +kernel
theorem dX7_firstText_43 : decode cX7_firstText 43 = .ok (.ireturn, 1) := by decide +kernel
theorem dX7_feed_0 : decode cX7_feed 0 = .ok (.iload_n 1, 1) := by decide +kernel
theorem dX7_feed_1 : decode cX7_feed 1 = .ok (.iconst 0, 1) := by decide +kernel
theorem dX7_feed_2 : decode cX7_feed 2 = .ok (.sipush 255, 3) := by decide +kernel
theorem dX7_feed_5 : decode cX7_feed 5 = .ok (.invokestatic 86, 3) := by decide +kernel
theorem dX7_feed_8 : decode cX7_feed 8 = .ok (.ifCond .ne 6, 3) := by decide +kernel
theorem dX7_feed_11 : decode cX7_feed 11 = .ok (.bipush (-2), 2) := by decide +kernel
theorem dX7_feed_13 : decode cX7_feed 13 = .ok (.ireturn, 1) := by decide +kernel
theorem dX7_feed_14 : decode cX7_feed 14 = .ok (.aload_n 0, 1) := by decide +kernel
theorem dX7_feed_15 : decode cX7_feed 15 = .ok (.getfield 127, 3) := by decide +kernel
theorem dX7_feed_18 : decode cX7_feed 18 = .ok (.sipush 160, 3) := by decide +kernel
theorem dX7_feed_21 : decode cX7_feed 21 = .ok (.if_icmp .ne 6, 3) := by decide +kernel
theorem dX7_feed_24 : decode cX7_feed 24 = .ok (.bipush (-4), 2) := by decide +kernel
theorem dX7_feed_26 : decode cX7_feed 26 = .ok (.ireturn, 1) := by decide +kernel
theorem dX7_feed_27 : decode cX7_feed 27 = .ok (.aload_n 0, 1) := by decide +kernel
theorem dX7_feed_28 : decode cX7_feed 28 = .ok (.getfield 19, 3) := by decide +kernel
theorem dX7_feed_31 : decode cX7_feed 31 = .ok (.aload_n 0, 1) := by decide +kernel
theorem dX7_feed_32 : decode cX7_feed 32 = .ok (.getfield 127, 3) := by decide +kernel
theorem dX7_feed_35 : decode cX7_feed 35 = .ok (.iload_n 1, 1) := by decide +kernel
theorem dX7_feed_36 : decode cX7_feed 36 = .ok (.iastore, 1) := by decide +kernel
theorem dX7_feed_37 : decode cX7_feed 37 = .ok (.aload_n 0, 1) := by decide +kernel
theorem dX7_feed_38 : decode cX7_feed 38 = .ok (.dup, 1) := by decide +kernel
theorem dX7_feed_39 : decode cX7_feed 39 = .ok (.getfield 127, 3) := by decide +kernel
theorem dX7_feed_42 : decode cX7_feed 42 = .ok (.iconst 1, 1) := by decide +kernel
theorem dX7_feed_43 : decode cX7_feed 43 = .ok (.iadd, 1) := by decide +kernel
theorem dX7_feed_44 : decode cX7_feed 44 = .ok (.putfield 127, 3) := by decide +kernel
theorem dX7_feed_47 : decode cX7_feed 47 = .ok (.aload_n 0, 1) := by decide +kernel
theorem dX7_feed_48 : decode cX7_feed 48 = .ok (.getfield 127, 3) := by decide +kernel
theorem dX7_feed_51 : decode cX7_feed 51 = .ok (.ireturn, 1) := by decide +kernel
theorem dX7_sortAt_0 : decode cX7_sortAt 0 = .ok (.iload_n 1, 1) := by decide +kernel
theorem dX7_sortAt_1 : decode cX7_sortAt 1 = .ok (.aload_n 0, 1) := by decide +kernel
theorem dX7_sortAt_2 : decode cX7_sortAt 2 = .ok (.getfield 127, 3) := by decide +kernel
theorem dX7_sortAt_5 : decode cX7_sortAt 5 = .ok (.if_icmp .lt 7, 3) := by decide +kernel
theorem dX7_sortAt_8 : decode cX7_sortAt 8 = .ok (.iconst 0, 1) := by decide +kernel
theorem dX7_sortAt_9 : decode cX7_sortAt 9 = .ok (.goto 44, 3) := by decide +kernel
theorem dX7_sortAt_12 : decode cX7_sortAt 12 = .ok (.aload_n 0, 1) := by decide +kernel
theorem dX7_sortAt_13 : decode cX7_sortAt 13 = .ok (.getfield 19, 3) := by decide +kernel
theorem dX7_sortAt_16 : decode cX7_sortAt 16 = .ok (.iload_n 1, 1) := by decide +kernel
theorem dX7_sortAt_17 : decode cX7_sortAt 17 = .ok (.iaload, 1) := by decide +kernel
theorem dX7_sortAt_18 : decode cX7_sortAt 18 = .ok (.bipush 97, 2) := by decide +kernel
theorem dX7_sortAt_20 : decode cX7_sortAt 20 = .ok (.bipush 122, 2) := by decide +kernel
theorem dX7_sortAt_22 : decode cX7_sortAt 22 = .ok (.invokestatic 86, 3) := by decide +kernel
theorem dX7_sortAt_25 : decode cX7_sortAt 25 = .ok (.ifCond .eq 7, 3) := by decide +kernel
theorem dX7_sortAt_28 : decode cX7_sortAt 28 = .ok (.iconst 1, 1) := by decide +kernel
theorem dX7_sortAt_29 : decode cX7_sortAt 29 = .ok (.goto 24, 3) := by decide +kernel
theorem dX7_sortAt_32 : decode cX7_sortAt 32 = .ok (.aload_n 0, 1) := by decide +kernel
theorem dX7_sortAt_33 : decode cX7_sortAt 33 = .ok (.getfield 19, 3) := by decide +kernel
theorem dX7_sortAt_36 : decode cX7_sortAt 36 = .ok (.iload_n 1, 1) := by decide +kernel
theorem dX7_sortAt_37 : decode cX7_sortAt 37 = .ok (.iaload, 1) := by decide +kernel
theorem dX7_sortAt_38 : decode cX7_sortAt 38 = .ok (.bipush 48, 2) := by decide +kernel
theorem dX7_sortAt_40 : decode cX7_sortAt 40 = .ok (.bipush 57, 2) := by decide +kernel
theorem dX7_sortAt_42 : decode cX7_sortAt 42 = .ok (.invokestatic 86, 3) := by decide +kernel
theorem dX7_sortAt_45 : decode cX7_sortAt 45 = .ok (.ifCond .eq 7, 3) := by decide +kernel
theorem dX7_sortAt_48 : decode cX7_sortAt 48 = .ok (.iconst 2, 1) := by decide +kernel
theorem dX7_sortAt_49 : decode cX7_sortAt 49 = .ok (.goto 4, 3) := by decide +kernel
theorem dX7_sortAt_52 : decode cX7_sortAt 52 = .ok (.iconst 3, 1) := by decide +kernel
theorem dX7_sortAt_53 : decode cX7_sortAt 53 = .ok (.ireturn, 1) := by decide +kernel
theorem dX7_next_0 : decode cX7_next 0 = .ok (.aload_n 0, 1) := by decide +kernel
theorem dX7_next_1 : decode cX7_next 1 = .ok (.getfield 130, 3) := by decide +kernel
theorem dX7_next_4 : decode cX7_next 4 = .ok (.aload_n 0, 1) := by decide +kernel
theorem dX7_next_5 : decode cX7_next 5 = .ok (.getfield 127, 3) := by decide +kernel
theorem dX7_next_8 : decode cX7_next 8 = .ok (.if_icmp .ge 44, 3) := by decide +kernel
theorem dX7_next_11 : decode cX7_next 11 = .ok (.aload_n 0, 1) := by decide +kernel
theorem dX7_next_12 : decode cX7_next 12 = .ok (.getfield 19, 3) := by decide +kernel
theorem dX7_next_15 : decode cX7_next 15 = .ok (.aload_n 0, 1) := by decide +kernel
theorem dX7_next_16 : decode cX7_next 16 = .ok (.getfield 130, 3) := by decide +kernel
theorem dX7_next_19 : decode cX7_next 19 = .ok (.iaload, 1) := by decide +kernel
theorem dX7_next_20 : decode cX7_next 20 = .ok (.bipush 32, 2) := by decide +kernel
theorem dX7_next_22 : decode cX7_next 22 = .ok (.if_icmp .eq 17, 3) := by decide +kernel
theorem dX7_next_25 : decode cX7_next 25 = .ok (.aload_n 0, 1) := by decide +kernel
theorem dX7_next_26 : decode cX7_next 26 = .ok (.getfield 19, 3) := by decide +kernel
theorem dX7_next_29 : decode cX7_next 29 = .ok (.aload_n 0, 1) := by decide +kernel
theorem dX7_next_30 : decode cX7_next 30 = .ok (.getfield 130, 3) := by decide +kernel
theorem dX7_next_33 : decode cX7_next 33 = .ok (.iaload, 1) := by decide +kernel
theorem dX7_next_34 : decode cX7_next 34 = .ok (.bipush 10, 2) := by decide +kernel
theorem dX7_next_36 : decode cX7_next 36 = .ok (.if_icmp .ne 16, 3) := by decide +kernel
theorem dX7_next_39 : decode cX7_next 39 = .ok (.aload_n 0, 1) := by decide +kernel
theorem dX7_next_40 : decode cX7_next 40 = .ok (.dup, 1) := by decide +kernel
theorem dX7_next_41 : decode cX7_next 41 = .ok (.getfield 130, 3) := by decide +kernel
theorem dX7_next_44 : decode cX7_next 44 = .ok (.iconst 1, 1) := by decide +kernel
theorem dX7_next_45 : decode cX7_next 45 = .ok (.iadd, 1) := by decide +kernel
theorem dX7_next_46 : decode cX7_next 46 = .ok (.putfield 130, 3) := by decide +kernel
theorem dX7_next_49 : decode cX7_next 49 = .ok (.goto (-49), 3) := by decide +kernel
theorem dX7_next_52 : decode cX7_next 52 = .ok (.aload_n 0, 1) := by decide +kernel
theorem dX7_next_53 : decode cX7_next 53 = .ok (.aload_n 0, 1) := by decide +kernel
theorem dX7_next_54 : decode cX7_next 54 = .ok (.getfield 130, 3) := by decide +kernel
theorem dX7_next_57 : decode cX7_next 57 = .ok (.putfield 133, 3) := by decide +kernel
theorem dX7_next_60 : decode cX7_next 60 = .ok (.aload_n 0, 1) := by decide +kernel
theorem dX7_next_61 : decode cX7_next 61 = .ok (.aload_n 0, 1) := by decide +kernel
theorem dX7_next_62 : decode cX7_next 62 = .ok (.aload_n 0, 1) := by decide +kernel
theorem dX7_next_63 : decode cX7_next 63 = .ok (.getfield 130, 3) := by decide +kernel
theorem dX7_next_66 : decode cX7_next 66 = .ok (.invokevirtual 136, 3) := by decide +kernel
theorem dX7_next_69 : decode cX7_next 69 = .ok (.putfield 139, 3) := by decide +kernel
theorem dX7_next_72 : decode cX7_next 72 = .ok (.aload_n 0, 1) := by decide +kernel
theorem dX7_next_73 : decode cX7_next 73 = .ok (.getfield 139, 3) := by decide +kernel
theorem dX7_next_76 : decode cX7_next 76 = .ok (.ifCond .le 49, 3) := by decide +kernel
theorem dX7_next_79 : decode cX7_next 79 = .ok (.aload_n 0, 1) := by decide +kernel
theorem dX7_next_80 : decode cX7_next 80 = .ok (.dup, 1) := by decide +kernel
theorem dX7_next_81 : decode cX7_next 81 = .ok (.getfield 130, 3) := by decide +kernel
theorem dX7_next_84 : decode cX7_next 84 = .ok (.iconst 1, 1) := by decide +kernel
theorem dX7_next_85 : decode cX7_next 85 = .ok (.iadd, 1) := by decide +kernel
theorem dX7_next_86 : decode cX7_next 86 = .ok (.putfield 130, 3) := by decide +kernel
theorem dX7_next_89 : decode cX7_next 89 = .ok (.aload_n 0, 1) := by decide +kernel
theorem dX7_next_90 : decode cX7_next 90 = .ok (.getfield 139, 3) := by decide +kernel
theorem dX7_next_93 : decode cX7_next 93 = .ok (.iconst 3, 1) := by decide +kernel
theorem dX7_next_94 : decode cX7_next 94 = .ok (.if_icmp .ge 31, 3) := by decide +kernel
theorem dX7_next_97 : decode cX7_next 97 = .ok (.aload_n 0, 1) := by decide +kernel
theorem dX7_next_98 : decode cX7_next 98 = .ok (.aload_n 0, 1) := by decide +kernel
theorem dX7_next_99 : decode cX7_next 99 = .ok (.getfield 130, 3) := by decide +kernel
theorem dX7_next_102 : decode cX7_next 102 = .ok (.invokevirtual 136, 3) := by decide +kernel
theorem dX7_next_105 : decode cX7_next 105 = .ok (.aload_n 0, 1) := by decide +kernel
theorem dX7_next_106 : decode cX7_next 106 = .ok (.getfield 139, 3) := by decide +kernel
theorem dX7_next_109 : decode cX7_next 109 = .ok (.if_icmp .ne 16, 3) := by decide +kernel
theorem dX7_next_112 : decode cX7_next 112 = .ok (.aload_n 0, 1) := by decide +kernel
theorem dX7_next_113 : decode cX7_next 113 = .ok (.dup, 1) := by decide +kernel
theorem dX7_next_114 : decode cX7_next 114 = .ok (.getfield 130, 3) := by decide +kernel
theorem dX7_next_117 : decode cX7_next 117 = .ok (.iconst 1, 1) := by decide +kernel
theorem dX7_next_118 : decode cX7_next 118 = .ok (.iadd, 1) := by decide +kernel
theorem dX7_next_119 : decode cX7_next 119 = .ok (.putfield 130, 3) := by decide +kernel
theorem dX7_next_122 : decode cX7_next 122 = .ok (.goto (-33), 3) := by decide +kernel
theorem dX7_next_125 : decode cX7_next 125 = .ok (.return_, 1) := by decide +kernel
theorem dX7_word_0 : decode cX7_word 0 = .ok (.iconst (-1), 1) := by decide +kernel
theorem dX7_word_1 : decode cX7_word 1 = .ok (.istore_n 1, 1) := by decide +kernel
theorem dX7_word_2 : decode cX7_word 2 = .ok (.iconst 0, 1) := by decide +kernel
theorem dX7_word_3 : decode cX7_word 3 = .ok (.istore_n 2, 1) := by decide +kernel
theorem dX7_word_4 : decode cX7_word 4 = .ok (.iload_n 2, 1) := by decide +kernel
theorem dX7_word_5 : decode cX7_word 5 = .ok (.bipush 12, 2) := by decide +kernel
theorem dX7_word_7 : decode cX7_word 7 = .ok (.if_icmp .ge 118, 3) := by decide +kernel
theorem dX7_word_10 : decode cX7_word 10 = .ok (.aload_n 0, 1) := by decide +kernel
theorem dX7_word_11 : decode cX7_word 11 = .ok (.getfield 139, 3) := by decide +kernel
theorem dX7_word_14 : decode cX7_word 14 = .ok (.iconst 1, 1) := by decide +kernel
theorem dX7_word_15 : decode cX7_word 15 = .ok (.if_icmp .ne 21, 3) := by decide +kernel
theorem dX7_word_18 : decode cX7_word 18 = .ok (.aload_n 0, 1) := by decide +kernel
theorem dX7_word_19 : decode cX7_word 19 = .ok (.getfield 130, 3) := by decide +kernel
theorem dX7_word_22 : decode cX7_word 22 = .ok (.aload_n 0, 1) := by decide +kernel
theorem dX7_word_23 : decode cX7_word 23 = .ok (.getfield 133, 3) := by decide +kernel
theorem dX7_word_26 : decode cX7_word 26 = .ok (.isub, 1) := by decide +kernel
theorem dX7_word_27 : decode cX7_word 27 = .ok (.bipush 7, 2) := by decide +kernel
theorem dX7_word_29 : decode cX7_word 29 = .ok (.if_icmp .gt 7, 3) := by decide +kernel
theorem dX7_word_32 : decode cX7_word 32 = .ok (.iconst 1, 1) := by decide +kernel
theorem dX7_word_33 : decode cX7_word 33 = .ok (.goto 4, 3) := by decide +kernel
theorem dX7_word_36 : decode cX7_word 36 = .ok (.iconst 0, 1) := by decide +kernel
theorem dX7_word_37 : decode cX7_word 37 = .ok (.istore_n 3, 1) := by decide +kernel
theorem dX7_word_38 : decode cX7_word 38 = .ok (.iconst 0, 1) := by decide +kernel
theorem dX7_word_39 : decode cX7_word 39 = .ok (.istore 4, 2) := by decide +kernel
theorem dX7_word_41 : decode cX7_word 41 = .ok (.iload_n 3, 1) := by decide +kernel
theorem dX7_word_42 : decode cX7_word 42 = .ok (.ifCond .eq 67, 3) := by decide +kernel
theorem dX7_word_45 : decode cX7_word 45 = .ok (.iload 4, 2) := by decide +kernel
theorem dX7_word_47 : decode cX7_word 47 = .ok (.bipush 7, 2) := by decide +kernel
theorem dX7_word_49 : decode cX7_word 49 = .ok (.if_icmp .ge 60, 3) := by decide +kernel
theorem dX7_word_52 : decode cX7_word 52 = .ok (.aload_n 0, 1) := by decide +kernel
theorem dX7_word_53 : decode cX7_word 53 = .ok (.getfield 36, 3) := by decide +kernel
theorem dX7_word_56 : decode cX7_word 56 = .ok (.bipush 7, 2) := by decide +kernel
theorem dX7_word_58 : decode cX7_word 58 = .ok (.iload_n 2, 1) := by decide +kernel
theorem dX7_word_59 : decode cX7_word 59 = .ok (.imul, 1) := by decide +kernel
theorem dX7_word_60 : decode cX7_word 60 = .ok (.iload 4, 2) := by decide +kernel
theorem dX7_word_62 : decode cX7_word 62 = .ok (.iadd, 1) := by decide +kernel
theorem dX7_word_63 : decode cX7_word 63 = .ok (.caload, 1) := by decide +kernel
theorem dX7_word_64 : decode cX7_word 64 = .ok (.aload_n 0, 1) := by decide +kernel
theorem dX7_word_65 : decode cX7_word 65 = .ok (.getfield 133, 3) := by decide +kernel
theorem dX7_word_68 : decode cX7_word 68 = .ok (.iload 4, 2) := by decide +kernel
theorem dX7_word_70 : decode cX7_word 70 = .ok (.iadd, 1) := by decide +kernel
theorem dX7_word_71 : decode cX7_word 71 = .ok (.aload_n 0, 1) := by decide +kernel
theorem dX7_word_72 : decode cX7_word 72 = .ok (.getfield 130, 3) := by decide +kernel
theorem dX7_word_75 : decode cX7_word 75 = .ok (.if_icmp .ge 18, 3) := by decide +kernel
theorem dX7_word_78 : decode cX7_word 78 = .ok (.aload_n 0, 1) := by decide +kernel
theorem dX7_word_79 : decode cX7_word 79 = .ok (.getfield 19, 3) := by decide +kernel
theorem dX7_word_82 : decode cX7_word 82 = .ok (.aload_n 0, 1) := by decide +kernel
theorem dX7_word_83 : decode cX7_word 83 = .ok (.getfield 133, 3) := by decide +kernel
theorem dX7_word_86 : decode cX7_word 86 = .ok (.iload 4, 2) := by decide +kernel
theorem dX7_word_88 : decode cX7_word 88 = .ok (.iadd, 1) := by decide +kernel
theorem dX7_word_89 : decode cX7_word 89 = .ok (.iaload, 1) := by decide +kernel
theorem dX7_word_90 : decode cX7_word 90 = .ok (.goto 4, 3) := by decide +kernel
theorem dX7_word_93 : decode cX7_word 93 = .ok (.iconst 0, 1) := by decide +kernel
theorem dX7_word_94 : decode cX7_word 94 = .ok (.if_icmp .ne 7, 3) := by decide +kernel
theorem dX7_word_97 : decode cX7_word 97 = .ok (.iconst 1, 1) := by decide +kernel
theorem dX7_word_98 : decode cX7_word 98 = .ok (.goto 4, 3) := by decide +kernel
theorem dX7_word_101 : decode cX7_word 101 = .ok (.iconst 0, 1) := by decide +kernel
theorem dX7_word_102 : decode cX7_word 102 = .ok (.istore_n 3, 1) := by decide +kernel
theorem dX7_word_103 : decode cX7_word 103 = .ok (.iinc 4 1, 3) := by decide +kernel
theorem dX7_word_106 : decode cX7_word 106 = .ok (.goto (-65), 3) := by decide +kernel
theorem dX7_word_109 : decode cX7_word 109 = .ok (.iload_n 3, 1) := by decide +kernel
theorem dX7_word_110 : decode cX7_word 110 = .ok (.ifCond .eq 7, 3) := by decide +kernel
theorem dX7_word_113 : decode cX7_word 113 = .ok (.iload_n 2, 1) := by decide +kernel
theorem dX7_word_114 : decode cX7_word 114 = .ok (.goto 4, 3) := by decide +kernel
theorem dX7_word_117 : decode cX7_word 117 = .ok (.iload_n 1, 1) := by decide +kernel
theorem dX7_word_118 : decode cX7_word 118 = .ok (.istore_n 1, 1) := by decide +kernel
theorem dX7_word_119 : decode cX7_word 119 = .ok (.iinc 2 1, 3) := by decide +kernel
theorem dX7_word_122 : decode cX7_word 122 = .ok (.goto (-118), 3) := by decide +kernel
theorem dX7_word_125 : decode cX7_word 125 = .ok (.iload_n 1, 1) := by decide +kernel
theorem dX7_word_126 : decode cX7_word 126 = .ok (.ireturn, 1) := by decide +kernel
theorem dX7_isSign_0 : decode cX7_isSign 0 = .ok (.aload_n 0, 1) := by decide +kernel
theorem dX7_isSign_1 : decode cX7_isSign 1 = .ok (.getfield 139, 3) := by decide +kernel
theorem dX7_isSign_4 : decode cX7_isSign 4 = .ok (.iconst 3, 1) := by decide +kernel
theorem dX7_isSign_5 : decode cX7_isSign 5 = .ok (.if_icmp .ne 20, 3) := by decide +kernel
theorem dX7_isSign_8 : decode cX7_isSign 8 = .ok (.aload_n 0, 1) := by decide +kernel
theorem dX7_isSign_9 : decode cX7_isSign 9 = .ok (.getfield 19, 3) := by decide +kernel
theorem dX7_isSign_12 : decode cX7_isSign 12 = .ok (.aload_n 0, 1) := by decide +kernel
theorem dX7_isSign_13 : decode cX7_isSign 13 = .ok (.getfield 133, 3) := by decide +kernel
theorem dX7_isSign_16 : decode cX7_isSign 16 = .ok (.iaload, 1) := by decide +kernel
theorem dX7_isSign_17 : decode cX7_isSign 17 = .ok (.iload_n 1, 1) := by decide +kernel
theorem dX7_isSign_18 : decode cX7_isSign 18 = .ok (.if_icmp .ne 7, 3) := by decide +kernel
theorem dX7_isSign_21 : decode cX7_isSign 21 = .ok (.iconst 1, 1) := by decide +kernel
theorem dX7_isSign_22 : decode cX7_isSign 22 = .ok (.goto 4, 3) := by decide +kernel
theorem dX7_isSign_25 : decode cX7_isSign 25 = .ok (.iconst 0, 1) := by decide +kernel
theorem dX7_isSign_26 : decode cX7_isSign 26 = .ok (.ireturn, 1) := by decide +kernel
theorem dX7_write_0 : decode cX7_write 0 = .ok (.aload_n 0, 1) := by decide +kernel
theorem dX7_write_1 : decode cX7_write 1 = .ok (.getfield 22, 3) := by decide +kernel
theorem dX7_write_4 : decode cX7_write 4 = .ok (.sipush 160, 3) := by decide +kernel
theorem dX7_write_7 : decode cX7_write 7 = .ok (.aload_n 0, 1) := by decide +kernel
theorem dX7_write_8 : decode cX7_write 8 = .ok (.getfield 32, 3) := by decide +kernel
theorem dX7_write_11 : decode cX7_write 11 = .ok (.imul, 1) := by decide +kernel
theorem dX7_write_12 : decode cX7_write 12 = .ok (.aload_n 0, 1) := by decide +kernel
theorem dX7_write_13 : decode cX7_write 13 = .ok (.getfield 142, 3) := by decide +kernel
theorem dX7_write_16 : decode cX7_write 16 = .ok (.iadd, 1) := by decide +kernel
theorem dX7_write_17 : decode cX7_write 17 = .ok (.iload_n 1, 1) := by decide +kernel
theorem dX7_write_18 : decode cX7_write 18 = .ok (.iastore, 1) := by decide +kernel
theorem dX7_write_19 : decode cX7_write 19 = .ok (.aload_n 0, 1) := by decide +kernel
theorem dX7_write_20 : decode cX7_write 20 = .ok (.dup, 1) := by decide +kernel
theorem dX7_write_21 : decode cX7_write 21 = .ok (.getfield 142, 3) := by decide +kernel
theorem dX7_write_24 : decode cX7_write 24 = .ok (.iconst 1, 1) := by decide +kernel
theorem dX7_write_25 : decode cX7_write 25 = .ok (.iadd, 1) := by decide +kernel
theorem dX7_write_26 : decode cX7_write 26 = .ok (.putfield 142, 3) := by decide +kernel
theorem dX7_write_29 : decode cX7_write 29 = .ok (.return_, 1) := by decide +kernel
theorem dX7_rank_0 : decode cX7_rank 0 = .ok (.iload_n 0, 1) := by decide +kernel
theorem dX7_rank_1 : decode cX7_rank 1 = .ok (.ifCond .ne 7, 3) := by decide +kernel
theorem dX7_rank_4 : decode cX7_rank 4 = .ok (.iconst 0, 1) := by decide +kernel
theorem dX7_rank_5 : decode cX7_rank 5 = .ok (.goto 72, 3) := by decide +kernel
theorem dX7_rank_8 : decode cX7_rank 8 = .ok (.iload_n 0, 1) := by decide +kernel
theorem dX7_rank_9 : decode cX7_rank 9 = .ok (.bipush (-20), 2) := by decide +kernel
theorem dX7_rank_11 : decode cX7_rank 11 = .ok (.if_icmp .ne 7, 3) := by decide +kernel
theorem dX7_rank_14 : decode cX7_rank 14 = .ok (.iconst 1, 1) := by decide +kernel
theorem dX7_rank_15 : decode cX7_rank 15 = .ok (.goto 62, 3) := by decide +kernel
theorem dX7_rank_18 : decode cX7_rank 18 = .ok (.iload_n 0, 1) := by decide +kernel
theorem dX7_rank_19 : decode cX7_rank 19 = .ok (.bipush (-21), 2) := by decide +kernel
theorem dX7_rank_21 : decode cX7_rank 21 = .ok (.if_icmp .ne 7, 3) := by decide +kernel
theorem dX7_rank_24 : decode cX7_rank 24 = .ok (.iconst 2, 1) := by decide +kernel
theorem dX7_rank_25 : decode cX7_rank 25 = .ok (.goto 52, 3) := by decide +kernel
theorem dX7_rank_28 : decode cX7_rank 28 = .ok (.iload_n 0, 1) := by decide +kernel
theorem dX7_rank_29 : decode cX7_rank 29 = .ok (.bipush (-22), 2) := by decide +kernel
theorem dX7_rank_31 : decode cX7_rank 31 = .ok (.if_icmp .ne 7, 3) := by decide +kernel
theorem dX7_rank_34 : decode cX7_rank 34 = .ok (.iconst 3, 1) := by decide +kernel
theorem dX7_rank_35 : decode cX7_rank 35 = .ok (.goto 42, 3) := by decide +kernel
theorem dX7_rank_38 : decode cX7_rank 38 = .ok (.iload_n 0, 1) := by decide +kernel
theorem dX7_rank_39 : decode cX7_rank 39 = .ok (.bipush (-23), 2) := by decide +kernel
theorem dX7_rank_41 : decode cX7_rank 41 = .ok (.if_icmp .eq 9, 3) := by decide +kernel
theorem dX7_rank_44 : decode cX7_rank 44 = .ok (.iload_n 0, 1) := by decide +kernel
theorem dX7_rank_45 : decode cX7_rank 45 = .ok (.bipush (-24), 2) := by decide +kernel
theorem dX7_rank_47 : decode cX7_rank 47 = .ok (.if_icmp .ne 7, 3) := by decide +kernel
theorem dX7_rank_50 : decode cX7_rank 50 = .ok (.iconst 4, 1) := by decide +kernel
theorem dX7_rank_51 : decode cX7_rank 51 = .ok (.goto 26, 3) := by decide +kernel
theorem dX7_rank_54 : decode cX7_rank 54 = .ok (.iload_n 0, 1) := by decide +kernel
theorem dX7_rank_55 : decode cX7_rank 55 = .ok (.bipush (-27), 2) := by decide +kernel
theorem dX7_rank_57 : decode cX7_rank 57 = .ok (.if_icmp .ne 8, 3) := by decide +kernel
theorem dX7_rank_60 : decode cX7_rank 60 = .ok (.bipush 6, 2) := by decide +kernel
theorem dX7_rank_62 : decode cX7_rank 62 = .ok (.goto 15, 3) := by decide +kernel
theorem dX7_rank_65 : decode cX7_rank 65 = .ok (.iload_n 0, 1) := by decide +kernel
theorem dX7_rank_66 : decode cX7_rank 66 = .ok (.bipush (-28), 2) := by decide +kernel
theorem dX7_rank_68 : decode cX7_rank 68 = .ok (.if_icmp .ne 8, 3) := by decide +kernel
theorem dX7_rank_71 : decode cX7_rank 71 = .ok (.bipush 7, 2) := by decide +kernel
theorem dX7_rank_73 : decode cX7_rank 73 = .ok (.goto 4, 3) := by decide +kernel
theorem dX7_rank_76 : decode cX7_rank 76 = .ok (.iconst 5, 1) := by decide +kernel
theorem dX7_rank_77 : decode cX7_rank 77 = .ok (.ireturn, 1) := by decide +kernel
theorem dX7_await_0 : decode cX7_await 0 = .ok (.aload_n 0, 1) := by decide +kernel
theorem dX7_await_1 : decode cX7_await 1 = .ok (.getfield 40, 3) := by decide +kernel
theorem dX7_await_4 : decode cX7_await 4 = .ok (.aload_n 0, 1) := by decide +kernel
theorem dX7_await_5 : decode cX7_await 5 = .ok (.getfield 145, 3) := by decide +kernel
theorem dX7_await_8 : decode cX7_await 8 = .ok (.iload_n 1, 1) := by decide +kernel
theorem dX7_await_9 : decode cX7_await 9 = .ok (.iastore, 1) := by decide +kernel
theorem dX7_await_10 : decode cX7_await 10 = .ok (.aload_n 0, 1) := by decide +kernel
theorem dX7_await_11 : decode cX7_await 11 = .ok (.dup, 1) := by decide +kernel
theorem dX7_await_12 : decode cX7_await 12 = .ok (.getfield 145, 3) := by decide +kernel
theorem dX7_await_15 : decode cX7_await 15 = .ok (.iconst 1, 1) := by decide +kernel
theorem dX7_await_16 : decode cX7_await 16 = .ok (.iadd, 1) := by decide +kernel
theorem dX7_await_17 : decode cX7_await 17 = .ok (.putfield 145, 3) := by decide +kernel
theorem dX7_await_20 : decode cX7_await 20 = .ok (.return_, 1) := by decide +kernel
theorem dX7_last_0 : decode cX7_last 0 = .ok (.aload_n 0, 1) := by decide +kernel
theorem dX7_last_1 : decode cX7_last 1 = .ok (.getfield 145, 3) := by decide +kernel
theorem dX7_last_4 : decode cX7_last 4 = .ok (.ifCond .ne 7, 3) := by decide +kernel
theorem dX7_last_7 : decode cX7_last 7 = .ok (.iconst 0, 1) := by decide +kernel
theorem dX7_last_8 : decode cX7_last 8 = .ok (.goto 17, 3) := by decide +kernel
theorem dX7_last_11 : decode cX7_last 11 = .ok (.aload_n 0, 1) := by decide +kernel
theorem dX7_last_12 : decode cX7_last 12 = .ok (.getfield 40, 3) := by decide +kernel
theorem dX7_last_15 : decode cX7_last 15 = .ok (.aload_n 0, 1) := by decide +kernel
theorem dX7_last_16 : decode cX7_last 16 = .ok (.getfield 145, 3) := by decide +kernel
theorem dX7_last_19 : decode cX7_last 19 = .ok (.iconst 1, 1) := by decide +kernel
theorem dX7_last_20 : decode cX7_last 20 = .ok (.isub, 1) := by decide +kernel
theorem dX7_last_21 : decode cX7_last 21 = .ok (.iaload, 1) := by decide +kernel
theorem dX7_last_22 : decode cX7_last 22 = .ok (.invokestatic 148, 3) := by decide +kernel
theorem dX7_last_25 : decode cX7_last 25 = .ok (.ireturn, 1) := by decide +kernel
theorem dX7_settle_0 : decode cX7_settle 0 = .ok (.aload_n 0, 1) := by decide +kernel
theorem dX7_settle_1 : decode cX7_settle 1 = .ok (.invokevirtual 151, 3) := by decide +kernel
theorem dX7_settle_4 : decode cX7_settle 4 = .ok (.ifCond .le 79, 3) := by decide +kernel
theorem dX7_settle_7 : decode cX7_settle 7 = .ok (.aload_n 0, 1) := by decide +kernel
theorem dX7_settle_8 : decode cX7_settle 8 = .ok (.invokevirtual 151, 3) := by decide +kernel
theorem dX7_settle_11 : decode cX7_settle 11 = .ok (.iload_n 1, 1) := by decide +kernel
theorem dX7_settle_12 : decode cX7_settle 12 = .ok (.if_icmp .lt 71, 3) := by decide +kernel
theorem dX7_settle_15 : decode cX7_settle 15 = .ok (.aload_n 0, 1) := by decide +kernel
theorem dX7_settle_16 : decode cX7_settle 16 = .ok (.dup, 1) := by decide +kernel
theorem dX7_settle_17 : decode cX7_settle 17 = .ok (.getfield 145, 3) := by decide +kernel
theorem dX7_settle_20 : decode cX7_settle 20 = .ok (.iconst 1, 1) := by decide +kernel
theorem dX7_settle_21 : decode cX7_settle 21 = .ok (.isub, 1) := by decide +kernel
theorem dX7_settle_22 : decode cX7_settle 22 = .ok (.putfield 145, 3) := by decide +kernel
theorem dX7_settle_25 : decode cX7_settle 25 = .ok (.aload_n 0, 1) := by decide +kernel
theorem dX7_settle_26 : decode cX7_settle 26 = .ok (.aload_n 0, 1) := by decide +kernel
theorem dX7_settle_27 : decode cX7_settle 27 = .ok (.getfield 40, 3) := by decide +kernel
theorem dX7_settle_30 : decode cX7_settle 30 = .ok (.aload_n 0, 1) := by decide +kernel
theorem dX7_settle_31 : decode cX7_settle 31 = .ok (.getfield 145, 3) := by decide +kernel
theorem dX7_settle_34 : decode cX7_settle 34 = .ok (.iaload, 1) := by decide +kernel
theorem dX7_settle_35 : decode cX7_settle 35 = .ok (.invokevirtual 154, 3) := by decide +kernel
theorem dX7_settle_38 : decode cX7_settle 38 = .ok (.aload_n 0, 1) := by decide +kernel
theorem dX7_settle_39 : decode cX7_settle 39 = .ok (.dup, 1) := by decide +kernel
theorem dX7_settle_40 : decode cX7_settle 40 = .ok (.getfield 158, 3) := by decide +kernel
theorem dX7_settle_43 : decode cX7_settle 43 = .ok (.aload_n 0, 1) := by decide +kernel
theorem dX7_settle_44 : decode cX7_settle 44 = .ok (.getfield 40, 3) := by decide +kernel
theorem dX7_settle_47 : decode cX7_settle 47 = .ok (.aload_n 0, 1) := by decide +kernel
theorem dX7_settle_48 : decode cX7_settle 48 = .ok (.getfield 145, 3) := by decide +kernel
theorem dX7_settle_51 : decode cX7_settle 51 = .ok (.iaload, 1) := by decide +kernel
theorem dX7_settle_52 : decode cX7_settle 52 = .ok (.bipush (-22), 2) := by decide +kernel
theorem dX7_settle_54 : decode cX7_settle 54 = .ok (.if_icmp .eq 17, 3) := by decide +kernel
theorem dX7_settle_57 : decode cX7_settle 57 = .ok (.aload_n 0, 1) := by decide +kernel
theorem dX7_settle_58 : decode cX7_settle 58 = .ok (.getfield 40, 3) := by decide +kernel
theorem dX7_settle_61 : decode cX7_settle 61 = .ok (.aload_n 0, 1) := by decide +kernel
theorem dX7_settle_62 : decode cX7_settle 62 = .ok (.getfield 145, 3) := by decide +kernel
theorem dX7_settle_65 : decode cX7_settle 65 = .ok (.iaload, 1) := by decide +kernel
theorem dX7_settle_66 : decode cX7_settle 66 = .ok (.bipush (-28), 2) := by decide +kernel
theorem dX7_settle_68 : decode cX7_settle 68 = .ok (.if_icmp .ne 7, 3) := by decide +kernel
theorem dX7_settle_71 : decode cX7_settle 71 = .ok (.iconst 1, 1) := by decide +kernel
theorem dX7_settle_72 : decode cX7_settle 72 = .ok (.goto 4, 3) := by decide +kernel
theorem dX7_settle_75 : decode cX7_settle 75 = .ok (.iconst 0, 1) := by decide +kernel
theorem dX7_settle_76 : decode cX7_settle 76 = .ok (.isub, 1) := by decide +kernel
theorem dX7_settle_77 : decode cX7_settle 77 = .ok (.putfield 158, 3) := by decide +kernel
theorem dX7_settle_80 : decode cX7_settle 80 = .ok (.goto (-80), 3) := by decide +kernel
theorem dX7_settle_83 : decode cX7_settle 83 = .ok (.return_, 1) := by decide +kernel
theorem dX7_between_0 : decode cX7_between 0 = .ok (.aload_n 0, 1) := by decide +kernel
theorem dX7_between_1 : decode cX7_between 1 = .ok (.invokevirtual 161, 3) := by decide +kernel
theorem dX7_between_4 : decode cX7_between 4 = .ok (.istore_n 1, 1) := by decide +kernel
theorem dX7_between_5 : decode cX7_between 5 = .ok (.iload_n 1, 1) := by decide +kernel
theorem dX7_between_6 : decode cX7_between 6 = .ok (.bipush 9, 2) := by decide +kernel
theorem dX7_between_8 : decode cX7_between 8 = .ok (.if_icmp .ne 8, 3) := by decide +kernel
theorem dX7_between_11 : decode cX7_between 11 = .ok (.bipush (-20), 2) := by decide +kernel
theorem dX7_between_13 : decode cX7_between 13 = .ok (.goto 85, 3) := by decide +kernel
theorem dX7_between_16 : decode cX7_between 16 = .ok (.iload_n 1, 1) := by decide +kernel
theorem dX7_between_17 : decode cX7_between 17 = .ok (.bipush 10, 2) := by decide +kernel
theorem dX7_between_19 : decode cX7_between 19 = .ok (.if_icmp .ne 8, 3) := by decide +kernel
theorem dX7_between_22 : decode cX7_between 22 = .ok (.bipush (-21), 2) := by decide +kernel
theorem dX7_between_24 : decode cX7_between 24 = .ok (.goto 74, 3) := by decide +kernel
theorem dX7_between_27 : decode cX7_between 27 = .ok (.aload_n 0, 1) := by decide +kernel
theorem dX7_between_28 : decode cX7_between 28 = .ok (.bipush 60, 2) := by decide +kernel
theorem dX7_between_30 : decode cX7_between 30 = .ok (.invokevirtual 164, 3) := by decide +kernel
theorem dX7_between_33 : decode cX7_between 33 = .ok (.ifCond .eq 8, 3) := by decide +kernel
theorem dX7_between_36 : decode cX7_between 36 = .ok (.bipush (-23), 2) := by decide +kernel
theorem dX7_between_38 : decode cX7_between 38 = .ok (.goto 60, 3) := by decide +kernel
theorem dX7_between_41 : decode cX7_between 41 = .ok (.aload_n 0, 1) := by decide +kernel
theorem dX7_between_42 : decode cX7_between 42 = .ok (.bipush 61, 2) := by decide +kernel
theorem dX7_between_44 : decode cX7_between 44 = .ok (.invokevirtual 164, 3) := by decide +kernel
theorem dX7_between_47 : decode cX7_between 47 = .ok (.ifCond .eq 8, 3) := by decide +kernel
theorem dX7_between_50 : decode cX7_between 50 = .ok (.bipush (-24), 2) := by decide +kernel
theorem dX7_between_52 : decode cX7_between 52 = .ok (.goto 46, 3) := by decide +kernel
theorem dX7_between_55 : decode cX7_between 55 = .ok (.aload_n 0, 1) := by decide +kernel
theorem dX7_between_56 : decode cX7_between 56 = .ok (.bipush 43, 2) := by decide +kernel
theorem dX7_between_58 : decode cX7_between 58 = .ok (.invokevirtual 164, 3) := by decide +kernel
theorem dX7_between_61 : decode cX7_between 61 = .ok (.ifCond .eq 8, 3) := by decide +kernel
theorem dX7_between_64 : decode cX7_between 64 = .ok (.bipush (-25), 2) := by decide +kernel
theorem dX7_between_66 : decode cX7_between 66 = .ok (.goto 32, 3) := by decide +kernel
theorem dX7_between_69 : decode cX7_between 69 = .ok (.aload_n 0, 1) := by decide +kernel
theorem dX7_between_70 : decode cX7_between 70 = .ok (.bipush 45, 2) := by decide +kernel
theorem dX7_between_72 : decode cX7_between 72 = .ok (.invokevirtual 164, 3) := by decide +kernel
theorem dX7_between_75 : decode cX7_between 75 = .ok (.ifCond .eq 8, 3) := by decide +kernel
theorem dX7_between_78 : decode cX7_between 78 = .ok (.bipush (-26), 2) := by decide +kernel
theorem dX7_between_80 : decode cX7_between 80 = .ok (.goto 18, 3) := by decide +kernel
theorem dX7_between_83 : decode cX7_between 83 = .ok (.aload_n 0, 1) := by decide +kernel
theorem dX7_between_84 : decode cX7_between 84 = .ok (.bipush 42, 2) := by decide +kernel
theorem dX7_between_86 : decode cX7_between 86 = .ok (.invokevirtual 164, 3) := by decide +kernel
theorem dX7_between_89 : decode cX7_between 89 = .ok (.ifCond .eq 8, 3) := by decide +kernel
theorem dX7_between_92 : decode cX7_between 92 = .ok (.bipush (-27), 2) := by decide +kernel
theorem dX7_between_94 : decode cX7_between 94 = .ok (.goto 4, 3) := by decide +kernel
theorem dX7_between_97 : decode cX7_between 97 = .ok (.iconst 0, 1) := by decide +kernel
theorem dX7_between_98 : decode cX7_between 98 = .ok (.ireturn, 1) := by decide +kernel
theorem dX7_numberThere_0 : decode cX7_numberThere 0 = .ok (.iconst 0, 1) := by decide +kernel
theorem dX7_numberThere_1 : decode cX7_numberThere 1 = .ok (.istore_n 1, 1) := by decide +kernel
theorem dX7_numberThere_2 : decode cX7_numberThere 2 = .ok (.aload_n 0, 1) := by decide +kernel
theorem dX7_numberThere_3 : decode cX7_numberThere 3 = .ok (.getfield 133, 3) := by decide +kernel
theorem dX7_numberThere_6 : decode cX7_numberThere 6 = .ok (.istore_n 2, 1) := by decide +kernel
theorem dX7_numberThere_7 : decode cX7_numberThere 7 = .ok (.iload_n 2, 1) := by decide +kernel
theorem dX7_numberThere_8 : decode cX7_numberThere 8 = .ok (.aload_n 0, 1) := by decide +kernel
theorem dX7_numberThere_9 : decode cX7_numberThere 9 = .ok (.getfield 130, 3) := by decide +kernel
theorem dX7_numberThere_12 : decode cX7_numberThere 12 = .ok (.if_icmp .ge 24, 3) := by decide +kernel
theorem dX7_numberThere_15 : decode cX7_numberThere 15 = .ok (.bipush 10, 2) := by decide +kernel
theorem dX7_numberThere_17 : decode cX7_numberThere 17 = .ok (.iload_n 1, 1) := by decide +kernel
theorem dX7_numberThere_18 : decode cX7_numberThere 18 = .ok (.imul, 1) := by decide +kernel
theorem dX7_numberThere_19 : decode cX7_numberThere 19 = .ok (.aload_n 0, 1) := by decide +kernel
theorem dX7_numberThere_20 : decode cX7_numberThere 20 = .ok (.getfield 19, 3) := by decide +kernel
theorem dX7_numberThere_23 : decode cX7_numberThere 23 = .ok (.iload_n 2, 1) := by decide +kernel
theorem dX7_numberThere_24 : decode cX7_numberThere 24 = .ok (.iaload, 1) := by decide +kernel
theorem dX7_numberThere_25 : decode cX7_numberThere 25 = .ok (.iadd, 1) := by decide +kernel
theorem dX7_numberThere_26 : decode cX7_numberThere 26 = .ok (.bipush 48, 2) := by decide +kernel
theorem dX7_numberThere_28 : decode cX7_numberThere 28 = .ok (.isub, 1) := by decide +kernel
theorem dX7_numberThere_29 : decode cX7_numberThere 29 = .ok (.istore_n 1, 1) := by decide +kernel
theorem dX7_numberThere_30 : decode cX7_numberThere 30 = .ok (.iinc 2 1, 3) := by decide +kernel
theorem dX7_numberThere_33 : decode cX7_numberThere 33 = .ok (.goto (-26), 3) := by decide +kernel
theorem dX7_numberThere_36 : decode cX7_numberThere 36 = .ok (.iload_n 1, 1) := by decide +kernel
theorem dX7_numberThere_37 : decode cX7_numberThere 37 = .ok (.ireturn, 1) := by decide +kernel
theorem dX7_begin_0 : decode cX7_begin 0 = .ok (.aload_n 0, 1) := by decide +kernel
theorem dX7_begin_1 : decode cX7_begin 1 = .ok (.invokevirtual 161, 3) := by decide +kernel
theorem dX7_begin_4 : decode cX7_begin 4 = .ok (.istore_n 1, 1) := by decide +kernel
theorem dX7_begin_5 : decode cX7_begin 5 = .ok (.iload_n 1, 1) := by decide +kernel
theorem dX7_begin_6 : decode cX7_begin 6 = .ok (.iconst 0, 1) := by decide +kernel
theorem dX7_begin_7 : decode cX7_begin 7 = .ok (.iconst 5, 1) := by decide +kernel
theorem dX7_begin_8 : decode cX7_begin 8 = .ok (.invokestatic 86, 3) := by decide +kernel
theorem dX7_begin_11 : decode cX7_begin 11 = .ok (.ifCond .eq 13, 3) := by decide +kernel
theorem dX7_begin_14 : decode cX7_begin 14 = .ok (.aload_n 0, 1) := by decide +kernel
theorem dX7_begin_15 : decode cX7_begin 15 = .ok (.bipush (-10), 2) := by decide +kernel
theorem dX7_begin_17 : decode cX7_begin 17 = .ok (.iload_n 1, 1) := by decide +kernel
theorem dX7_begin_18 : decode cX7_begin 18 = .ok (.isub, 1) := by decide +kernel
theorem dX7_begin_19 : decode cX7_begin 19 = .ok (.invokevirtual 154, 3) := by decide +kernel
theorem dX7_begin_22 : decode cX7_begin 22 = .ok (.iconst 1, 1) := by decide +kernel
theorem dX7_begin_23 : decode cX7_begin 23 = .ok (.ireturn, 1) := by decide +kernel
theorem dX7_begin_24 : decode cX7_begin 24 = .ok (.aload_n 0, 1) := by decide +kernel
theorem dX7_begin_25 : decode cX7_begin 25 = .ok (.getfield 139, 3) := by decide +kernel
theorem dX7_begin_28 : decode cX7_begin 28 = .ok (.iconst 2, 1) := by decide +kernel
theorem dX7_begin_29 : decode cX7_begin 29 = .ok (.if_icmp .ne 26, 3) := by decide +kernel
theorem dX7_begin_32 : decode cX7_begin 32 = .ok (.aload_n 0, 1) := by decide +kernel
theorem dX7_begin_33 : decode cX7_begin 33 = .ok (.getfield 130, 3) := by decide +kernel
theorem dX7_begin_36 : decode cX7_begin 36 = .ok (.aload_n 0, 1) := by decide +kernel
theorem dX7_begin_37 : decode cX7_begin 37 = .ok (.getfield 133, 3) := by decide +kernel
theorem dX7_begin_40 : decode cX7_begin 40 = .ok (.isub, 1) := by decide +kernel
theorem dX7_begin_41 : decode cX7_begin 41 = .ok (.iconst 4, 1) := by decide +kernel
theorem dX7_begin_42 : decode cX7_begin 42 = .ok (.if_icmp .gt 13, 3) := by decide +kernel
theorem dX7_begin_45 : decode cX7_begin 45 = .ok (.aload_n 0, 1) := by decide +kernel
theorem dX7_begin_46 : decode cX7_begin 46 = .ok (.aload_n 0, 1) := by decide +kernel
theorem dX7_begin_47 : decode cX7_begin 47 = .ok (.invokevirtual 167, 3) := by decide +kernel
theorem dX7_begin_50 : decode cX7_begin 50 = .ok (.invokevirtual 154, 3) := by decide +kernel
theorem dX7_begin_53 : decode cX7_begin 53 = .ok (.iconst 1, 1) := by decide +kernel
theorem dX7_begin_54 : decode cX7_begin 54 = .ok (.ireturn, 1) := by decide +kernel
theorem dX7_begin_55 : decode cX7_begin 55 = .ok (.aload_n 0, 1) := by decide +kernel
theorem dX7_begin_56 : decode cX7_begin 56 = .ok (.bipush 40, 2) := by decide +kernel
theorem dX7_begin_58 : decode cX7_begin 58 = .ok (.invokevirtual 164, 3) := by decide +kernel
theorem dX7_begin_61 : decode cX7_begin 61 = .ok (.ifCond .eq 7, 3) := by decide +kernel
theorem dX7_begin_64 : decode cX7_begin 64 = .ok (.iconst 0, 1) := by decide +kernel
theorem dX7_begin_65 : decode cX7_begin 65 = .ok (.goto 38, 3) := by decide +kernel
theorem dX7_begin_68 : decode cX7_begin 68 = .ok (.aload_n 0, 1) := by decide +kernel
theorem dX7_begin_69 : decode cX7_begin 69 = .ok (.bipush 45, 2) := by decide +kernel
theorem dX7_begin_71 : decode cX7_begin 71 = .ok (.invokevirtual 164, 3) := by decide +kernel
theorem dX7_begin_74 : decode cX7_begin 74 = .ok (.ifCond .eq 8, 3) := by decide +kernel
theorem dX7_begin_77 : decode cX7_begin 77 = .ok (.bipush (-28), 2) := by decide +kernel
theorem dX7_begin_79 : decode cX7_begin 79 = .ok (.goto 24, 3) := by decide +kernel
theorem dX7_begin_82 : decode cX7_begin 82 = .ok (.iload_n 1, 1) := by decide +kernel
theorem dX7_begin_83 : decode cX7_begin 83 = .ok (.bipush 11, 2) := by decide +kernel
theorem dX7_begin_85 : decode cX7_begin 85 = .ok (.if_icmp .ne 16, 3) := by decide +kernel
theorem dX7_begin_88 : decode cX7_begin 88 = .ok (.aload_n 0, 1) := by decide +kernel
theorem dX7_begin_89 : decode cX7_begin 89 = .ok (.invokevirtual 151, 3) := by decide +kernel
theorem dX7_begin_92 : decode cX7_begin 92 = .ok (.iconst 3, 1) := by decide +kernel
theorem dX7_begin_93 : decode cX7_begin 93 = .ok (.if_icmp .gt 8, 3) := by decide +kernel
theorem dX7_begin_96 : decode cX7_begin 96 = .ok (.bipush (-22), 2) := by decide +kernel
theorem dX7_begin_98 : decode cX7_begin 98 = .ok (.goto 5, 3) := by decide +kernel
theorem dX7_begin_101 : decode cX7_begin 101 = .ok (.bipush (-25), 2) := by decide +kernel
theorem dX7_begin_103 : decode cX7_begin 103 = .ok (.istore_n 2, 1) := by decide +kernel
theorem dX7_begin_104 : decode cX7_begin 104 = .ok (.iload_n 2, 1) := by decide +kernel
theorem dX7_begin_105 : decode cX7_begin 105 = .ok (.bipush (-25), 2) := by decide +kernel
theorem dX7_begin_107 : decode cX7_begin 107 = .ok (.if_icmp .eq 11, 3) := by decide +kernel
theorem dX7_begin_110 : decode cX7_begin 110 = .ok (.aload_n 0, 1) := by decide +kernel
theorem dX7_begin_111 : decode cX7_begin 111 = .ok (.getfield 158, 3) := by decide +kernel
theorem dX7_begin_114 : decode cX7_begin 114 = .ok (.iconst 5, 1) := by decide +kernel
theorem dX7_begin_115 : decode cX7_begin 115 = .ok (.if_icmp .ne 5, 3) := by decide +kernel
theorem dX7_begin_118 : decode cX7_begin 118 = .ok (.iconst 0, 1) := by decide +kernel
theorem dX7_begin_119 : decode cX7_begin 119 = .ok (.ireturn, 1) := by decide +kernel
theorem dX7_begin_120 : decode cX7_begin 120 = .ok (.aload_n 0, 1) := by decide +kernel
theorem dX7_begin_121 : decode cX7_begin 121 = .ok (.dup, 1) := by decide +kernel
theorem dX7_begin_122 : decode cX7_begin 122 = .ok (.getfield 158, 3) := by decide +kernel
theorem dX7_begin_125 : decode cX7_begin 125 = .ok (.iconst 1, 1) := by decide +kernel
theorem dX7_begin_126 : decode cX7_begin 126 = .ok (.iadd, 1) := by decide +kernel
theorem dX7_begin_127 : decode cX7_begin 127 = .ok (.putfield 158, 3) := by decide +kernel
theorem dX7_begin_130 : decode cX7_begin 130 = .ok (.aload_n 0, 1) := by decide +kernel
theorem dX7_begin_131 : decode cX7_begin 131 = .ok (.iload_n 2, 1) := by decide +kernel
theorem dX7_begin_132 : decode cX7_begin 132 = .ok (.invokevirtual 170, 3) := by decide +kernel
theorem dX7_begin_135 : decode cX7_begin 135 = .ok (.iconst 2, 1) := by decide +kernel
theorem dX7_begin_136 : decode cX7_begin 136 = .ok (.ireturn, 1) := by decide +kernel
theorem dX7_isE_0 : decode cX7_isE 0 = .ok (.aload_n 0, 1) := by decide +kernel
theorem dX7_isE_1 : decode cX7_isE 1 = .ok (.iconst 0, 1) := by decide +kernel
theorem dX7_isE_2 : decode cX7_isE 2 = .ok (.putfield 145, 3) := by decide +kernel
theorem dX7_isE_5 : decode cX7_isE 5 = .ok (.aload_n 0, 1) := by decide +kernel
theorem dX7_isE_6 : decode cX7_isE 6 = .ok (.invokevirtual 173, 3) := by decide +kernel
theorem dX7_isE_9 : decode cX7_isE 9 = .ok (.istore_n 1, 1) := by decide +kernel
theorem dX7_isE_10 : decode cX7_isE 10 = .ok (.iload_n 1, 1) := by decide +kernel
theorem dX7_isE_11 : decode cX7_isE 11 = .ok (.iconst 2, 1) := by decide +kernel
theorem dX7_isE_12 : decode cX7_isE 12 = .ok (.if_icmp .ne 15, 3) := by decide +kernel
theorem dX7_isE_15 : decode cX7_isE 15 = .ok (.aload_n 0, 1) := by decide +kernel
theorem dX7_isE_16 : decode cX7_isE 16 = .ok (.invokevirtual 176, 3) := by decide +kernel
theorem dX7_isE_19 : decode cX7_isE 19 = .ok (.aload_n 0, 1) := by decide +kernel
theorem dX7_isE_20 : decode cX7_isE 20 = .ok (.invokevirtual 173, 3) := by decide +kernel
theorem dX7_isE_23 : decode cX7_isE 23 = .ok (.istore_n 1, 1) := by decide +kernel
theorem dX7_isE_24 : decode cX7_isE 24 = .ok (.goto (-14), 3) := by decide +kernel
theorem dX7_isE_27 : decode cX7_isE 27 = .ok (.iload_n 1, 1) := by decide +kernel
theorem dX7_isE_28 : decode cX7_isE 28 = .ok (.ifCond .ne 5, 3) := by decide +kernel
theorem dX7_isE_31 : decode cX7_isE 31 = .ok (.iconst 0, 1) := by decide +kernel
theorem dX7_isE_32 : decode cX7_isE 32 = .ok (.ireturn, 1) := by decide +kernel
theorem dX7_isE_33 : decode cX7_isE 33 = .ok (.aload_n 0, 1) := by decide +kernel
theorem dX7_isE_34 : decode cX7_isE 34 = .ok (.bipush 7, 2) := by decide +kernel
theorem dX7_isE_36 : decode cX7_isE 36 = .ok (.invokevirtual 179, 3) := by decide +kernel
theorem dX7_isE_39 : decode cX7_isE 39 = .ok (.aload_n 0, 1) := by decide +kernel
theorem dX7_isE_40 : decode cX7_isE 40 = .ok (.invokevirtual 176, 3) := by decide +kernel
theorem dX7_isE_43 : decode cX7_isE 43 = .ok (.aload_n 0, 1) := by decide +kernel
theorem dX7_isE_44 : decode cX7_isE 44 = .ok (.bipush 41, 2) := by decide +kernel
theorem dX7_isE_46 : decode cX7_isE 46 = .ok (.invokevirtual 164, 3) := by decide +kernel
theorem dX7_isE_49 : decode cX7_isE 49 = .ok (.ifCond .eq 50, 3) := by decide +kernel
theorem dX7_isE_52 : decode cX7_isE 52 = .ok (.aload_n 0, 1) := by decide +kernel
theorem dX7_isE_53 : decode cX7_isE 53 = .ok (.iconst 1, 1) := by decide +kernel
theorem dX7_isE_54 : decode cX7_isE 54 = .ok (.invokevirtual 179, 3) := by decide +kernel
theorem dX7_isE_57 : decode cX7_isE 57 = .ok (.aload_n 0, 1) := by decide +kernel
theorem dX7_isE_58 : decode cX7_isE 58 = .ok (.getfield 145, 3) := by decide +kernel
theorem dX7_isE_61 : decode cX7_isE 61 = .ok (.ifCond .ne 5, 3) := by decide +kernel
theorem dX7_isE_64 : decode cX7_isE 64 = .ok (.iconst 0, 1) := by decide +kernel
theorem dX7_isE_65 : decode cX7_isE 65 = .ok (.ireturn, 1) := by decide +kernel
theorem dX7_isE_66 : decode cX7_isE 66 = .ok (.aload_n 0, 1) := by decide +kernel
theorem dX7_isE_67 : decode cX7_isE 67 = .ok (.dup, 1) := by decide +kernel
theorem dX7_isE_68 : decode cX7_isE 68 = .ok (.getfield 145, 3) := by decide +kernel
theorem dX7_isE_71 : decode cX7_isE 71 = .ok (.iconst 1, 1) := by decide +kernel
theorem dX7_isE_72 : decode cX7_isE 72 = .ok (.isub, 1) := by decide +kernel
theorem dX7_isE_73 : decode cX7_isE 73 = .ok (.putfield 145, 3) := by decide +kernel
theorem dX7_isE_76 : decode cX7_isE 76 = .ok (.aload_n 0, 1) := by decide +kernel
theorem dX7_isE_77 : decode cX7_isE 77 = .ok (.dup, 1) := by decide +kernel
theorem dX7_isE_78 : decode cX7_isE 78 = .ok (.getfield 158, 3) := by decide +kernel
theorem dX7_isE_81 : decode cX7_isE 81 = .ok (.iconst 1, 1) := by decide +kernel
theorem dX7_isE_82 : decode cX7_isE 82 = .ok (.isub, 1) := by decide +kernel
theorem dX7_isE_83 : decode cX7_isE 83 = .ok (.putfield 158, 3) := by decide +kernel
theorem dX7_isE_86 : decode cX7_isE 86 = .ok (.aload_n 0, 1) := by decide +kernel
theorem dX7_isE_87 : decode cX7_isE 87 = .ok (.bipush 7, 2) := by decide +kernel
theorem dX7_isE_89 : decode cX7_isE 89 = .ok (.invokevirtual 179, 3) := by decide +kernel
theorem dX7_isE_92 : decode cX7_isE 92 = .ok (.aload_n 0, 1) := by decide +kernel
theorem dX7_isE_93 : decode cX7_isE 93 = .ok (.invokevirtual 176, 3) := by decide +kernel
theorem dX7_isE_96 : decode cX7_isE 96 = .ok (.goto (-53), 3) := by decide +kernel
theorem dX7_isE_99 : decode cX7_isE 99 = .ok (.aload_n 0, 1) := by decide +kernel
theorem dX7_isE_100 : decode cX7_isE 100 = .ok (.invokevirtual 182, 3) := by decide +kernel
theorem dX7_isE_103 : decode cX7_isE 103 = .ok (.istore_n 2, 1) := by decide +kernel
theorem dX7_isE_104 : decode cX7_isE 104 = .ok (.iload_n 2, 1) := by decide +kernel
theorem dX7_isE_105 : decode cX7_isE 105 = .ok (.ifCond .ne 21, 3) := by decide +kernel
theorem dX7_isE_108 : decode cX7_isE 108 = .ok (.aload_n 0, 1) := by decide +kernel
theorem dX7_isE_109 : decode cX7_isE 109 = .ok (.iconst 1, 1) := by decide +kernel
theorem dX7_isE_110 : decode cX7_isE 110 = .ok (.invokevirtual 179, 3) := by decide +kernel
theorem dX7_isE_113 : decode cX7_isE 113 = .ok (.aload_n 0, 1) := by decide +kernel
theorem dX7_isE_114 : decode cX7_isE 114 = .ok (.getfield 145, 3) := by decide +kernel
theorem dX7_isE_117 : decode cX7_isE 117 = .ok (.ifCond .ne 7, 3) := by decide +kernel
theorem dX7_isE_120 : decode cX7_isE 120 = .ok (.iconst 1, 1) := by decide +kernel
theorem dX7_isE_121 : decode cX7_isE 121 = .ok (.goto 4, 3) := by decide +kernel
theorem dX7_isE_124 : decode cX7_isE 124 = .ok (.iconst 0, 1) := by decide +kernel
theorem dX7_isE_125 : decode cX7_isE 125 = .ok (.ireturn, 1) := by decide +kernel
theorem dX7_isE_126 : decode cX7_isE 126 = .ok (.aload_n 0, 1) := by decide +kernel
theorem dX7_isE_127 : decode cX7_isE 127 = .ok (.iload_n 2, 1) := by decide +kernel
theorem dX7_isE_128 : decode cX7_isE 128 = .ok (.invokestatic 148, 3) := by decide +kernel
theorem dX7_isE_131 : decode cX7_isE 131 = .ok (.iconst 4, 1) := by decide +kernel
theorem dX7_isE_132 : decode cX7_isE 132 = .ok (.if_icmp .ne 7, 3) := by decide +kernel
theorem dX7_isE_135 : decode cX7_isE 135 = .ok (.iconst 5, 1) := by decide +kernel
theorem dX7_isE_136 : decode cX7_isE 136 = .ok (.goto 7, 3) := by decide +kernel
theorem dX7_isE_139 : decode cX7_isE 139 = .ok (.iload_n 2, 1) := by decide +kernel
theorem dX7_isE_140 : decode cX7_isE 140 = .ok (.invokestatic 148, 3) := by decide +kernel
theorem dX7_isE_143 : decode cX7_isE 143 = .ok (.invokevirtual 179, 3) := by decide +kernel
theorem dX7_isE_146 : decode cX7_isE 146 = .ok (.iload_n 2, 1) := by decide +kernel
theorem dX7_isE_147 : decode cX7_isE 147 = .ok (.invokestatic 148, 3) := by decide +kernel
theorem dX7_isE_150 : decode cX7_isE 150 = .ok (.iconst 4, 1) := by decide +kernel
theorem dX7_isE_151 : decode cX7_isE 151 = .ok (.if_icmp .ne 13, 3) := by decide +kernel
theorem dX7_isE_154 : decode cX7_isE 154 = .ok (.aload_n 0, 1) := by decide +kernel
theorem dX7_isE_155 : decode cX7_isE 155 = .ok (.invokevirtual 151, 3) := by decide +kernel
theorem dX7_isE_158 : decode cX7_isE 158 = .ok (.iconst 4, 1) := by decide +kernel
theorem dX7_isE_159 : decode cX7_isE 159 = .ok (.if_icmp .ne 5, 3) := by decide +kernel
theorem dX7_isE_162 : decode cX7_isE 162 = .ok (.iconst 0, 1) := by decide +kernel
theorem dX7_isE_163 : decode cX7_isE 163 = .ok (.ireturn, 1) := by decide +kernel
theorem dX7_isE_164 : decode cX7_isE 164 = .ok (.aload_n 0, 1) := by decide +kernel
theorem dX7_isE_165 : decode cX7_isE 165 = .ok (.iload_n 2, 1) := by decide +kernel
theorem dX7_isE_166 : decode cX7_isE 166 = .ok (.invokevirtual 170, 3) := by decide +kernel
theorem dX7_isE_169 : decode cX7_isE 169 = .ok (.aload_n 0, 1) := by decide +kernel
theorem dX7_isE_170 : decode cX7_isE 170 = .ok (.invokevirtual 176, 3) := by decide +kernel
theorem dX7_isE_173 : decode cX7_isE 173 = .ok (.goto (-168), 3) := by decide +kernel
theorem dX7_isText_0 : decode cX7_isText 0 = .ok (.aload_n 0, 1) := by decide +kernel
theorem dX7_isText_1 : decode cX7_isText 1 = .ok (.invokevirtual 176, 3) := by decide +kernel
theorem dX7_isText_4 : decode cX7_isText 4 = .ok (.iconst 0, 1) := by decide +kernel
theorem dX7_isText_5 : decode cX7_isText 5 = .ok (.istore_n 1, 1) := by decide +kernel
theorem dX7_isText_6 : decode cX7_isText 6 = .ok (.iload_n 1, 1) := by decide +kernel
theorem dX7_isText_7 : decode cX7_isText 7 = .ok (.iconst 3, 1) := by decide +kernel
theorem dX7_isText_8 : decode cX7_isText 8 = .ok (.if_icmp .ge 65, 3) := by decide +kernel
theorem dX7_isText_11 : decode cX7_isText 11 = .ok (.aload_n 0, 1) := by decide +kernel
theorem dX7_isText_12 : decode cX7_isText 12 = .ok (.invokevirtual 161, 3) := by decide +kernel
theorem dX7_isText_15 : decode cX7_isText 15 = .ok (.bipush 6, 2) := by decide +kernel
theorem dX7_isText_17 : decode cX7_isText 17 = .ok (.iload_n 1, 1) := by decide +kernel
theorem dX7_isText_18 : decode cX7_isText 18 = .ok (.iadd, 1) := by decide +kernel
theorem dX7_isText_19 : decode cX7_isText 19 = .ok (.if_icmp .eq 5, 3) := by decide +kernel
theorem dX7_isText_22 : decode cX7_isText 22 = .ok (.iconst 0, 1) := by decide +kernel
theorem dX7_isText_23 : decode cX7_isText 23 = .ok (.ireturn, 1) := by decide +kernel
theorem dX7_isText_24 : decode cX7_isText 24 = .ok (.aload_n 0, 1) := by decide +kernel
theorem dX7_isText_25 : decode cX7_isText 25 = .ok (.invokevirtual 176, 3) := by decide +kernel
theorem dX7_isText_28 : decode cX7_isText 28 = .ok (.aload_n 0, 1) := by decide +kernel
theorem dX7_isText_29 : decode cX7_isText 29 = .ok (.invokevirtual 185, 3) := by decide +kernel
theorem dX7_isText_32 : decode cX7_isText 32 = .ok (.ifCond .eq 12, 3) := by decide +kernel
theorem dX7_isText_35 : decode cX7_isText 35 = .ok (.aload_n 0, 1) := by decide +kernel
theorem dX7_isText_36 : decode cX7_isText 36 = .ok (.bipush 59, 2) := by decide +kernel
theorem dX7_isText_38 : decode cX7_isText 38 = .ok (.invokevirtual 164, 3) := by decide +kernel
theorem dX7_isText_41 : decode cX7_isText 41 = .ok (.ifCond .ne 5, 3) := by decide +kernel
theorem dX7_isText_44 : decode cX7_isText 44 = .ok (.iconst 0, 1) := by decide +kernel
theorem dX7_isText_45 : decode cX7_isText 45 = .ok (.ireturn, 1) := by decide +kernel
theorem dX7_isText_46 : decode cX7_isText 46 = .ok (.aload_n 0, 1) := by decide +kernel
theorem dX7_isText_47 : decode cX7_isText 47 = .ok (.getfield 25, 3) := by decide +kernel
theorem dX7_isText_50 : decode cX7_isText 50 = .ok (.iconst 3, 1) := by decide +kernel
theorem dX7_isText_51 : decode cX7_isText 51 = .ok (.aload_n 0, 1) := by decide +kernel
theorem dX7_isText_52 : decode cX7_isText 52 = .ok (.getfield 32, 3) := by decide +kernel
theorem dX7_isText_55 : decode cX7_isText 55 = .ok (.imul, 1) := by decide +kernel
theorem dX7_isText_56 : decode cX7_isText 56 = .ok (.iload_n 1, 1) := by decide +kernel
theorem dX7_isText_57 : decode cX7_isText 57 = .ok (.iadd, 1) := by decide +kernel
theorem dX7_isText_58 : decode cX7_isText 58 = .ok (.aload_n 0, 1) := by decide +kernel
theorem dX7_isText_59 : decode cX7_isText 59 = .ok (.getfield 142, 3) := by decide +kernel
theorem dX7_isText_62 : decode cX7_isText 62 = .ok (.iastore, 1) := by decide +kernel
theorem dX7_isText_63 : decode cX7_isText 63 = .ok (.aload_n 0, 1) := by decide +kernel
theorem dX7_isText_64 : decode cX7_isText 64 = .ok (.invokevirtual 176, 3) := by decide +kernel
theorem dX7_isText_67 : decode cX7_isText 67 = .ok (.iinc 1 1, 3) := by decide +kernel
theorem dX7_isText_70 : decode cX7_isText 70 = .ok (.goto (-64), 3) := by decide +kernel
theorem dX7_isText_73 : decode cX7_isText 73 = .ok (.aload_n 0, 1) := by decide +kernel
theorem dX7_isText_74 : decode cX7_isText 74 = .ok (.getfield 139, 3) := by decide +kernel
theorem dX7_isText_77 : decode cX7_isText 77 = .ok (.ifCond .ne 7, 3) := by decide +kernel
theorem dX7_isText_80 : decode cX7_isText 80 = .ok (.iconst 1, 1) := by decide +kernel
theorem dX7_isText_81 : decode cX7_isText 81 = .ok (.goto 4, 3) := by decide +kernel
theorem dX7_isText_84 : decode cX7_isText 84 = .ok (.iconst 0, 1) := by decide +kernel
theorem dX7_isText_85 : decode cX7_isText 85 = .ok (.ireturn, 1) := by decide +kernel
theorem dX7_text_0 : decode cX7_text 0 = .ok (.aload_n 0, 1) := by decide +kernel
theorem dX7_text_1 : decode cX7_text 1 = .ok (.getfield 32, 3) := by decide +kernel
theorem dX7_text_4 : decode cX7_text 4 = .ok (.bipush 6, 2) := by decide +kernel
theorem dX7_text_6 : decode cX7_text 6 = .ok (.if_icmp .ne 6, 3) := by decide +kernel
