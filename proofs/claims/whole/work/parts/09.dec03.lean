theorem dX6_finds_72 : decode cX6_finds 72 = .ok (.iload 4, 2) := by decide +kernel
theorem dX6_finds_74 : decode cX6_finds 74 = .ok (.if_icmp .ge 77, 3) := by decide +kernel
theorem dX6_finds_77 : decode cX6_finds 77 = .ok (.aload 5, 2) := by decide +kernel
theorem dX6_finds_79 : decode cX6_finds 79 = .ok (.iload 7, 2) := by decide +kernel
theorem dX6_finds_81 : decode cX6_finds 81 = .ok (.iconst 4, 1) := by decide +kernel
theorem dX6_finds_82 : decode cX6_finds 82 = .ok (.invokevirtual 230, 3) := by decide +kernel
theorem dX6_finds_85 : decode cX6_finds 85 = .ok (.ifCond .ne 6, 3) := by decide +kernel
theorem dX6_finds_88 : decode cX6_finds 88 = .ok (.bipush (-12), 2) := by decide +kernel
theorem dX6_finds_90 : decode cX6_finds 90 = .ok (.ireturn, 1) := by decide +kernel
theorem dX6_finds_91 : decode cX6_finds 91 = .ok (.aload_n 0, 1) := by decide +kernel
theorem dX6_finds_92 : decode cX6_finds 92 = .ok (.getfield 28, 3) := by decide +kernel
theorem dX6_finds_95 : decode cX6_finds 95 = .ok (.aload 5, 2) := by decide +kernel
theorem dX6_finds_97 : decode cX6_finds 97 = .ok (.getfield 157, 3) := by decide +kernel
theorem dX6_finds_100 : decode cX6_finds 100 = .ok (.iload 7, 2) := by decide +kernel
theorem dX6_finds_102 : decode cX6_finds 102 = .ok (.iaload, 1) := by decide +kernel
theorem dX6_finds_103 : decode cX6_finds 103 = .ok (.aload 5, 2) := by decide +kernel
theorem dX6_finds_105 : decode cX6_finds 105 = .ok (.getfield 157, 3) := by decide +kernel
theorem dX6_finds_108 : decode cX6_finds 108 = .ok (.iload 7, 2) := by decide +kernel
theorem dX6_finds_110 : decode cX6_finds 110 = .ok (.iconst 1, 1) := by decide +kernel
theorem dX6_finds_111 : decode cX6_finds 111 = .ok (.iadd, 1) := by decide +kernel
theorem dX6_finds_112 : decode cX6_finds 112 = .ok (.iaload, 1) := by decide +kernel
theorem dX6_finds_113 : decode cX6_finds 113 = .ok (.aload 5, 2) := by decide +kernel
theorem dX6_finds_115 : decode cX6_finds 115 = .ok (.getfield 157, 3) := by decide +kernel
theorem dX6_finds_118 : decode cX6_finds 118 = .ok (.iload 7, 2) := by decide +kernel
theorem dX6_finds_120 : decode cX6_finds 120 = .ok (.iconst 2, 1) := by decide +kernel
theorem dX6_finds_121 : decode cX6_finds 121 = .ok (.iadd, 1) := by decide +kernel
theorem dX6_finds_122 : decode cX6_finds 122 = .ok (.iaload, 1) := by decide +kernel
theorem dX6_finds_123 : decode cX6_finds 123 = .ok (.aload 5, 2) := by decide +kernel
theorem dX6_finds_125 : decode cX6_finds 125 = .ok (.getfield 157, 3) := by decide +kernel
theorem dX6_finds_128 : decode cX6_finds 128 = .ok (.iload 7, 2) := by decide +kernel
theorem dX6_finds_130 : decode cX6_finds 130 = .ok (.iconst 3, 1) := by decide +kernel
theorem dX6_finds_131 : decode cX6_finds 131 = .ok (.iadd, 1) := by decide +kernel
theorem dX6_finds_132 : decode cX6_finds 132 = .ok (.iaload, 1) := by decide +kernel
theorem dX6_finds_133 : decode cX6_finds 133 = .ok (.invokevirtual 76, 3) := by decide +kernel
theorem dX6_finds_136 : decode cX6_finds 136 = .ok (.ifCond .lt 6, 3) := by decide +kernel
theorem dX6_finds_139 : decode cX6_finds 139 = .ok (.iinc 6 1, 3) := by decide +kernel
theorem dX6_finds_142 : decode cX6_finds 142 = .ok (.iinc 7 4, 3) := by decide +kernel
theorem dX6_finds_145 : decode cX6_finds 145 = .ok (.iinc 8 1, 3) := by decide +kernel
theorem dX6_finds_148 : decode cX6_finds 148 = .ok (.goto (-78), 3) := by decide +kernel
theorem dX6_finds_151 : decode cX6_finds 151 = .ok (.iload 6, 2) := by decide +kernel
theorem dX6_finds_153 : decode cX6_finds 153 = .ok (.ireturn, 1) := by decide +kernel
theorem dX6_taken_0 : decode cX6_taken 0 = .ok (.iload_n 2, 1) := by decide +kernel
theorem dX6_taken_1 : decode cX6_taken 1 = .ok (.iconst 0, 1) := by decide +kernel
theorem dX6_taken_2 : decode cX6_taken 2 = .ok (.iconst 5, 1) := by decide +kernel
theorem dX6_taken_3 : decode cX6_taken 3 = .ok (.invokestatic 56, 3) := by decide +kernel
theorem dX6_taken_6 : decode cX6_taken 6 = .ok (.ifCond .ne 6, 3) := by decide +kernel
theorem dX6_taken_9 : decode cX6_taken 9 = .ok (.bipush (-2), 2) := by decide +kernel
theorem dX6_taken_11 : decode cX6_taken 11 = .ok (.ireturn, 1) := by decide +kernel
theorem dX6_taken_12 : decode cX6_taken 12 = .ok (.aload_n 0, 1) := by decide +kernel
theorem dX6_taken_13 : decode cX6_taken 13 = .ok (.iload_n 1, 1) := by decide +kernel
theorem dX6_taken_14 : decode cX6_taken 14 = .ok (.invokevirtual 60, 3) := by decide +kernel
theorem dX6_taken_17 : decode cX6_taken 17 = .ok (.ifCond .ne 6, 3) := by decide +kernel
theorem dX6_taken_20 : decode cX6_taken 20 = .ok (.bipush (-11), 2) := by decide +kernel
theorem dX6_taken_22 : decode cX6_taken 22 = .ok (.ireturn, 1) := by decide +kernel
theorem dX6_taken_23 : decode cX6_taken 23 = .ok (.aload_n 0, 1) := by decide +kernel
theorem dX6_taken_24 : decode cX6_taken 24 = .ok (.getfield 28, 3) := by decide +kernel
theorem dX6_taken_27 : decode cX6_taken 27 = .ok (.getfield 242, 3) := by decide +kernel
theorem dX6_taken_30 : decode cX6_taken 30 = .ok (.iload_n 1, 1) := by decide +kernel
theorem dX6_taken_31 : decode cX6_taken 31 = .ok (.iaload, 1) := by decide +kernel
theorem dX6_taken_32 : decode cX6_taken 32 = .ok (.iload_n 2, 1) := by decide +kernel
theorem dX6_taken_33 : decode cX6_taken 33 = .ok (.invokestatic 245, 3) := by decide +kernel
theorem dX6_taken_36 : decode cX6_taken 36 = .ok (.ifCond .eq 15, 3) := by decide +kernel
theorem dX6_taken_39 : decode cX6_taken 39 = .ok (.aload_n 0, 1) := by decide +kernel
theorem dX6_taken_40 : decode cX6_taken 40 = .ok (.getfield 28, 3) := by decide +kernel
theorem dX6_taken_43 : decode cX6_taken 43 = .ok (.getfield 248, 3) := by decide +kernel
theorem dX6_taken_46 : decode cX6_taken 46 = .ok (.iload_n 1, 1) := by decide +kernel
theorem dX6_taken_47 : decode cX6_taken 47 = .ok (.iaload, 1) := by decide +kernel
theorem dX6_taken_48 : decode cX6_taken 48 = .ok (.goto 5, 3) := by decide +kernel
theorem dX6_taken_51 : decode cX6_taken 51 = .ok (.bipush (-13), 2) := by decide +kernel
theorem dX6_taken_53 : decode cX6_taken 53 = .ok (.ireturn, 1) := by decide +kernel
theorem dX6_isIn_0 : decode cX6_isIn 0 = .ok (.iload_n 0, 1) := by decide +kernel
theorem dX6_isIn_1 : decode cX6_isIn 1 = .ok (.iload_n 1, 1) := by decide +kernel
theorem dX6_isIn_2 : decode cX6_isIn 2 = .ok (.if_icmp .lt 12, 3) := by decide +kernel
theorem dX6_isIn_5 : decode cX6_isIn 5 = .ok (.iload_n 0, 1) := by decide +kernel
theorem dX6_isIn_6 : decode cX6_isIn 6 = .ok (.iload_n 2, 1) := by decide +kernel
theorem dX6_isIn_7 : decode cX6_isIn 7 = .ok (.if_icmp .gt 7, 3) := by decide +kernel
theorem dX6_isIn_10 : decode cX6_isIn 10 = .ok (.iconst 1, 1) := by decide +kernel
theorem dX6_isIn_11 : decode cX6_isIn 11 = .ok (.goto 4, 3) := by decide +kernel
theorem dX6_isIn_14 : decode cX6_isIn 14 = .ok (.iconst 0, 1) := by decide +kernel
theorem dX6_isIn_15 : decode cX6_isIn 15 = .ok (.ireturn, 1) := by decide +kernel
theorem dX6_isPiece_0 : decode cX6_isPiece 0 = .ok (.iload_n 1, 1) := by decide +kernel
theorem dX6_isPiece_1 : decode cX6_isPiece 1 = .ok (.ifCond .lt 18, 3) := by decide +kernel
theorem dX6_isPiece_4 : decode cX6_isPiece 4 = .ok (.iload_n 1, 1) := by decide +kernel
theorem dX6_isPiece_5 : decode cX6_isPiece 5 = .ok (.aload_n 0, 1) := by decide +kernel
theorem dX6_isPiece_6 : decode cX6_isPiece 6 = .ok (.getfield 28, 3) := by decide +kernel
theorem dX6_isPiece_9 : decode cX6_isPiece 9 = .ok (.getfield 189, 3) := by decide +kernel
theorem dX6_isPiece_12 : decode cX6_isPiece 12 = .ok (.if_icmp .ge 7, 3) := by decide +kernel
theorem dX6_isPiece_15 : decode cX6_isPiece 15 = .ok (.iconst 1, 1) := by decide +kernel
theorem dX6_isPiece_16 : decode cX6_isPiece 16 = .ok (.goto 4, 3) := by decide +kernel
theorem dX6_isPiece_19 : decode cX6_isPiece 19 = .ok (.iconst 0, 1) := by decide +kernel
theorem dX6_isPiece_20 : decode cX6_isPiece 20 = .ok (.ireturn, 1) := by decide +kernel
theorem dX6_areTwo_0 : decode cX6_areTwo 0 = .ok (.aload_n 0, 1) := by decide +kernel
theorem dX6_areTwo_1 : decode cX6_areTwo 1 = .ok (.iload_n 1, 1) := by decide +kernel
theorem dX6_areTwo_2 : decode cX6_areTwo 2 = .ok (.invokevirtual 60, 3) := by decide +kernel
theorem dX6_areTwo_5 : decode cX6_areTwo 5 = .ok (.ifCond .eq 20, 3) := by decide +kernel
theorem dX6_areTwo_8 : decode cX6_areTwo 8 = .ok (.aload_n 0, 1) := by decide +kernel
theorem dX6_areTwo_9 : decode cX6_areTwo 9 = .ok (.iload_n 2, 1) := by decide +kernel
theorem dX6_areTwo_10 : decode cX6_areTwo 10 = .ok (.invokevirtual 60, 3) := by decide +kernel
theorem dX6_areTwo_13 : decode cX6_areTwo 13 = .ok (.ifCond .eq 12, 3) := by decide +kernel
theorem dX6_areTwo_16 : decode cX6_areTwo 16 = .ok (.iload_n 1, 1) := by decide +kernel
theorem dX6_areTwo_17 : decode cX6_areTwo 17 = .ok (.iload_n 2, 1) := by decide +kernel
theorem dX6_areTwo_18 : decode cX6_areTwo 18 = .ok (.if_icmp .eq 7, 3) := by decide +kernel
theorem dX6_areTwo_21 : decode cX6_areTwo 21 = .ok (.iconst 1, 1) := by decide +kernel
theorem dX6_areTwo_22 : decode cX6_areTwo 22 = .ok (.goto 4, 3) := by decide +kernel
theorem dX6_areTwo_25 : decode cX6_areTwo 25 = .ok (.iconst 0, 1) := by decide +kernel
theorem dX6_areTwo_26 : decode cX6_areTwo 26 = .ok (.ireturn, 1) := by decide +kernel
theorem dX6_isSheet_0 : decode cX6_isSheet 0 = .ok (.iload_n 0, 1) := by decide +kernel
theorem dX6_isSheet_1 : decode cX6_isSheet 1 = .ok (.ifCond .lt 12, 3) := by decide +kernel
theorem dX6_isSheet_4 : decode cX6_isSheet 4 = .ok (.iload_n 0, 1) := by decide +kernel
theorem dX6_isSheet_5 : decode cX6_isSheet 5 = .ok (.iconst 4, 1) := by decide +kernel
theorem dX6_isSheet_6 : decode cX6_isSheet 6 = .ok (.if_icmp .ge 7, 3) := by decide +kernel
theorem dX6_isSheet_9 : decode cX6_isSheet 9 = .ok (.iconst 1, 1) := by decide +kernel
theorem dX6_isSheet_10 : decode cX6_isSheet 10 = .ok (.goto 4, 3) := by decide +kernel
theorem dX6_isSheet_13 : decode cX6_isSheet 13 = .ok (.iconst 0, 1) := by decide +kernel
theorem dX6_isSheet_14 : decode cX6_isSheet 14 = .ok (.ireturn, 1) := by decide +kernel
theorem dX6_isOfKind_0 : decode cX6_isOfKind 0 = .ok (.iload_n 0, 1) := by decide +kernel
theorem dX6_isOfKind_1 : decode cX6_isOfKind 1 = .ok (.istore_n 2, 1) := by decide +kernel
theorem dX6_isOfKind_2 : decode cX6_isOfKind 2 = .ok (.iconst 0, 1) := by decide +kernel
theorem dX6_isOfKind_3 : decode cX6_isOfKind 3 = .ok (.istore_n 3, 1) := by decide +kernel
theorem dX6_isOfKind_4 : decode cX6_isOfKind 4 = .ok (.iload_n 3, 1) := by decide +kernel
theorem dX6_isOfKind_5 : decode cX6_isOfKind 5 = .ok (.bipush 6, 2) := by decide +kernel
theorem dX6_isOfKind_7 : decode cX6_isOfKind 7 = .ok (.if_icmp .ge 26, 3) := by decide +kernel
theorem dX6_isOfKind_10 : decode cX6_isOfKind 10 = .ok (.iload_n 2, 1) := by decide +kernel
theorem dX6_isOfKind_11 : decode cX6_isOfKind 11 = .ok (.ifCond .lt 22, 3) := by decide +kernel
theorem dX6_isOfKind_14 : decode cX6_isOfKind 14 = .ok (.iload_n 2, 1) := by decide +kernel
theorem dX6_isOfKind_15 : decode cX6_isOfKind 15 = .ok (.iload_n 1, 1) := by decide +kernel
theorem dX6_isOfKind_16 : decode cX6_isOfKind 16 = .ok (.if_icmp .ne 5, 3) := by decide +kernel
theorem dX6_isOfKind_19 : decode cX6_isOfKind 19 = .ok (.iconst 1, 1) := by decide +kernel
theorem dX6_isOfKind_20 : decode cX6_isOfKind 20 = .ok (.ireturn, 1) := by decide +kernel
theorem dX6_isOfKind_21 : decode cX6_isOfKind 21 = .ok (.getstatic 251, 3) := by decide +kernel
theorem dX6_isOfKind_24 : decode cX6_isOfKind 24 = .ok (.iload_n 2, 1) := by decide +kernel
theorem dX6_isOfKind_25 : decode cX6_isOfKind 25 = .ok (.iaload, 1) := by decide +kernel
theorem dX6_isOfKind_26 : decode cX6_isOfKind 26 = .ok (.istore_n 2, 1) := by decide +kernel
theorem dX6_isOfKind_27 : decode cX6_isOfKind 27 = .ok (.iinc 3 1, 3) := by decide +kernel
theorem dX6_isOfKind_30 : decode cX6_isOfKind 30 = .ok (.goto (-26), 3) := by decide +kernel
theorem dX6_isOfKind_33 : decode cX6_isOfKind 33 = .ok (.iconst 0, 1) := by decide +kernel
theorem dX6_isOfKind_34 : decode cX6_isOfKind 34 = .ok (.ireturn, 1) := by decide +kernel
theorem dX6_bounded_0 : decode cX6_bounded 0 = .ok (.iload_n 1, 1) := by decide +kernel
theorem dX6_bounded_1 : decode cX6_bounded 1 = .ok (.iload_n 2, 1) := by decide +kernel
theorem dX6_bounded_2 : decode cX6_bounded 2 = .ok (.iload_n 0, 1) := by decide +kernel
theorem dX6_bounded_3 : decode cX6_bounded 3 = .ok (.invokestatic 254, 3) := by decide +kernel
theorem dX6_bounded_6 : decode cX6_bounded 6 = .ok (.invokestatic 259, 3) := by decide +kernel
theorem dX6_bounded_9 : decode cX6_bounded 9 = .ok (.ireturn, 1) := by decide +kernel
theorem dX6_apart_0 : decode cX6_apart 0 = .ok (.iload_n 0, 1) := by decide +kernel
theorem dX6_apart_1 : decode cX6_apart 1 = .ok (.iload_n 1, 1) := by decide +kernel
theorem dX6_apart_2 : decode cX6_apart 2 = .ok (.isub, 1) := by decide +kernel
theorem dX6_apart_3 : decode cX6_apart 3 = .ok (.invokestatic 262, 3) := by decide +kernel
theorem dX6_apart_6 : decode cX6_apart 6 = .ok (.istore_n 2, 1) := by decide +kernel
theorem dX6_apart_7 : decode cX6_apart 7 = .ok (.iload_n 2, 1) := by decide +kernel
theorem dX6_apart_8 : decode cX6_apart 8 = .ok (.bipush 12, 2) := by decide +kernel
theorem dX6_apart_10 : decode cX6_apart 10 = .ok (.iload_n 2, 1) := by decide +kernel
theorem dX6_apart_11 : decode cX6_apart 11 = .ok (.isub, 1) := by decide +kernel
theorem dX6_apart_12 : decode cX6_apart 12 = .ok (.invokestatic 254, 3) := by decide +kernel
theorem dX6_apart_15 : decode cX6_apart 15 = .ok (.ireturn, 1) := by decide +kernel
theorem dX6_inLowestTerms_0 : decode cX6_inLowestTerms 0 = .ok (.iload_n 0, 1) := by decide +kernel
theorem dX6_inLowestTerms_1 : decode cX6_inLowestTerms 1 = .ok (.istore_n 3, 1) := by decide +kernel
theorem dX6_inLowestTerms_2 : decode cX6_inLowestTerms 2 = .ok (.iload_n 1, 1) := by decide +kernel
theorem dX6_inLowestTerms_3 : decode cX6_inLowestTerms 3 = .ok (.istore 4, 2) := by decide +kernel
theorem dX6_inLowestTerms_5 : decode cX6_inLowestTerms 5 = .ok (.iconst 0, 1) := by decide +kernel
theorem dX6_inLowestTerms_6 : decode cX6_inLowestTerms 6 = .ok (.istore 5, 2) := by decide +kernel
theorem dX6_inLowestTerms_8 : decode cX6_inLowestTerms 8 = .ok (.iload 5, 2) := by decide +kernel
theorem dX6_inLowestTerms_10 : decode cX6_inLowestTerms 10 = .ok (.bipush 64, 2) := by decide +kernel
theorem dX6_inLowestTerms_12 : decode cX6_inLowestTerms 12 = .ok (.if_icmp .ge 27, 3) := by decide +kernel
theorem dX6_inLowestTerms_15 : decode cX6_inLowestTerms 15 = .ok (.iload 4, 2) := by decide +kernel
theorem dX6_inLowestTerms_17 : decode cX6_inLowestTerms 17 = .ok (.ifCond .eq 22, 3) := by decide +kernel
theorem dX6_inLowestTerms_20 : decode cX6_inLowestTerms 20 = .ok (.iload_n 3, 1) := by decide +kernel
theorem dX6_inLowestTerms_21 : decode cX6_inLowestTerms 21 = .ok (.iload 4, 2) := by decide +kernel
theorem dX6_inLowestTerms_23 : decode cX6_inLowestTerms 23 = .ok (.irem, 1) := by decide +kernel
theorem dX6_inLowestTerms_24 : decode cX6_inLowestTerms 24 = .ok (.istore 6, 2) := by decide +kernel
theorem dX6_inLowestTerms_26 : decode cX6_inLowestTerms 26 = .ok (.iload 4, 2) := by decide +kernel
theorem dX6_inLowestTerms_28 : decode cX6_inLowestTerms 28 = .ok (.istore_n 3, 1) := by decide +kernel
theorem dX6_inLowestTerms_29 : decode cX6_inLowestTerms 29 = .ok (.iload 6, 2) := by decide +kernel
theorem dX6_inLowestTerms_31 : decode cX6_inLowestTerms 31 = .ok (.istore 4, 2) := by decide +kernel
theorem dX6_inLowestTerms_33 : decode cX6_inLowestTerms 33 = .ok (.iinc 5 1, 3) := by decide +kernel
theorem dX6_inLowestTerms_36 : decode cX6_inLowestTerms 36 = .ok (.goto (-28), 3) := by decide +kernel
theorem dX6_inLowestTerms_39 : decode cX6_inLowestTerms 39 = .ok (.iload_n 3, 1) := by decide +kernel
theorem dX6_inLowestTerms_40 : decode cX6_inLowestTerms 40 = .ok (.ifCond .ne 7, 3) := by decide +kernel
theorem dX6_inLowestTerms_43 : decode cX6_inLowestTerms 43 = .ok (.ldc2_w 190, 3) := by decide +kernel
theorem dX6_inLowestTerms_46 : decode cX6_inLowestTerms 46 = .ok (.lreturn, 1) := by decide +kernel
theorem dX6_inLowestTerms_47 : decode cX6_inLowestTerms 47 = .ok (.iload_n 2, 1) := by decide +kernel
theorem dX6_inLowestTerms_48 : decode cX6_inLowestTerms 48 = .ok (.ifCond .ne 10, 3) := by decide +kernel
theorem dX6_inLowestTerms_51 : decode cX6_inLowestTerms 51 = .ok (.iload_n 0, 1) := by decide +kernel
theorem dX6_inLowestTerms_52 : decode cX6_inLowestTerms 52 = .ok (.iload_n 3, 1) := by decide +kernel
theorem dX6_inLowestTerms_53 : decode cX6_inLowestTerms 53 = .ok (.idiv, 1) := by decide +kernel
theorem dX6_inLowestTerms_54 : decode cX6_inLowestTerms 54 = .ok (.i2l, 1) := by decide +kernel
theorem dX6_inLowestTerms_55 : decode cX6_inLowestTerms 55 = .ok (.goto 7, 3) := by decide +kernel
theorem dX6_inLowestTerms_58 : decode cX6_inLowestTerms 58 = .ok (.iload_n 1, 1) := by decide +kernel
theorem dX6_inLowestTerms_59 : decode cX6_inLowestTerms 59 = .ok (.iload_n 3, 1) := by decide +kernel
theorem dX6_inLowestTerms_60 : decode cX6_inLowestTerms 60 = .ok (.idiv, 1) := by decide +kernel
theorem dX6_inLowestTerms_61 : decode cX6_inLowestTerms 61 = .ok (.i2l, 1) := by decide +kernel
theorem dX6_inLowestTerms_62 : decode cX6_inLowestTerms 62 = .ok (.lreturn, 1) := by decide +kernel
theorem dX6_behindWhichAllAreRound_0 : decode cX6_behindWhichAllAreRound 0 = .ok (.aload_n 0, 1) := by decide +kernel
theorem dX6_behindWhichAllAreRound_1 : decode cX6_behindWhichAllAreRound 1 = .ok (.getfield 32, 3) := by decide +kernel
theorem dX6_behindWhichAllAreRound_4 : decode cX6_behindWhichAllAreRound 4 = .ok (.aload_n 0, 1) := by decide +kernel
theorem dX6_behindWhichAllAreRound_5 : decode cX6_behindWhichAllAreRound 5 = .ok (.getfield 28, 3) := by decide +kernel
theorem dX6_behindWhichAllAreRound_8 : decode cX6_behindWhichAllAreRound 8 = .ok (.invokevirtual 120, 3) := by decide +kernel
theorem dX6_behindWhichAllAreRound_11 : decode cX6_behindWhichAllAreRound 11 = .ok (.iconst 0, 1) := by decide +kernel
theorem dX6_behindWhichAllAreRound_12 : decode cX6_behindWhichAllAreRound 12 = .ok (.istore_n 1, 1) := by decide +kernel
theorem dX6_behindWhichAllAreRound_13 : decode cX6_behindWhichAllAreRound 13 = .ok (.iload_n 1, 1) := by decide +kernel
theorem dX6_behindWhichAllAreRound_14 : decode cX6_behindWhichAllAreRound 14 = .ok (.bipush 60, 2) := by decide +kernel
theorem dX6_behindWhichAllAreRound_16 : decode cX6_behindWhichAllAreRound 16 = .ok (.if_icmp .gt 35, 3) := by decide +kernel
theorem dX6_behindWhichAllAreRound_19 : decode cX6_behindWhichAllAreRound 19 = .ok (.aload_n 0, 1) := by decide +kernel
theorem dX6_behindWhichAllAreRound_20 : decode cX6_behindWhichAllAreRound 20 = .ok (.getfield 32, 3) := by decide +kernel
theorem dX6_behindWhichAllAreRound_23 : decode cX6_behindWhichAllAreRound 23 = .ok (.invokevirtual 116, 3) := by decide +kernel
theorem dX6_behindWhichAllAreRound_26 : decode cX6_behindWhichAllAreRound 26 = .ok (.aload_n 0, 1) := by decide +kernel
theorem dX6_behindWhichAllAreRound_27 : decode cX6_behindWhichAllAreRound 27 = .ok (.getfield 32, 3) := by decide +kernel
theorem dX6_behindWhichAllAreRound_30 : decode cX6_behindWhichAllAreRound 30 = .ok (.getfield 189, 3) := by decide +kernel
theorem dX6_behindWhichAllAreRound_33 : decode cX6_behindWhichAllAreRound 33 = .ok (.if_icmp .ne 5, 3) := by decide +kernel
theorem dX6_behindWhichAllAreRound_36 : decode cX6_behindWhichAllAreRound 36 = .ok (.iload_n 1, 1) := by decide +kernel
theorem dX6_behindWhichAllAreRound_37 : decode cX6_behindWhichAllAreRound 37 = .ok (.ireturn, 1) := by decide +kernel
theorem dX6_behindWhichAllAreRound_38 : decode cX6_behindWhichAllAreRound 38 = .ok (.aload_n 0, 1) := by decide +kernel
theorem dX6_behindWhichAllAreRound_39 : decode cX6_behindWhichAllAreRound 39 = .ok (.getfield 32, 3) := by decide +kernel
theorem dX6_behindWhichAllAreRound_42 : decode cX6_behindWhichAllAreRound 42 = .ok (.invokevirtual 113, 3) := by decide +kernel
theorem dX6_behindWhichAllAreRound_45 : decode cX6_behindWhichAllAreRound 45 = .ok (.iinc 1 1, 3) := by decide +kernel
theorem dX6_behindWhichAllAreRound_48 : decode cX6_behindWhichAllAreRound 48 = .ok (.goto (-35), 3) := by decide +kernel
theorem dX6_behindWhichAllAreRound_51 : decode cX6_behindWhichAllAreRound 51 = .ok (.iconst (-1), 1) := by decide +kernel
theorem dX6_behindWhichAllAreRound_52 : decode cX6_behindWhichAllAreRound 52 = .ok (.ireturn, 1) := by decide +kernel
theorem dX6_behindWhichRoundFrom_0 : decode cX6_behindWhichRoundFrom 0 = .ok (.aload_n 0, 1) := by decide +kernel
theorem dX6_behindWhichRoundFrom_1 : decode cX6_behindWhichRoundFrom 1 = .ok (.getfield 32, 3) := by decide +kernel
theorem dX6_behindWhichRoundFrom_4 : decode cX6_behindWhichRoundFrom 4 = .ok (.aload_n 0, 1) := by decide +kernel
theorem dX6_behindWhichRoundFrom_5 : decode cX6_behindWhichRoundFrom 5 = .ok (.getfield 28, 3) := by decide +kernel
theorem dX6_behindWhichRoundFrom_8 : decode cX6_behindWhichRoundFrom 8 = .ok (.invokevirtual 120, 3) := by decide +kernel
theorem dX6_behindWhichRoundFrom_11 : decode cX6_behindWhichRoundFrom 11 = .ok (.aload_n 0, 1) := by decide +kernel
theorem dX6_behindWhichRoundFrom_12 : decode cX6_behindWhichRoundFrom 12 = .ok (.getfield 32, 3) := by decide +kernel
theorem dX6_behindWhichRoundFrom_15 : decode cX6_behindWhichRoundFrom 15 = .ok (.getfield 127, 3) := by decide +kernel
theorem dX6_behindWhichRoundFrom_18 : decode cX6_behindWhichRoundFrom 18 = .ok (.iload_n 1, 1) := by decide +kernel
theorem dX6_behindWhichRoundFrom_19 : decode cX6_behindWhichRoundFrom 19 = .ok (.iload_n 2, 1) := by decide +kernel
theorem dX6_behindWhichRoundFrom_20 : decode cX6_behindWhichRoundFrom 20 = .ok (.iastore, 1) := by decide +kernel
theorem dX6_behindWhichRoundFrom_21 : decode cX6_behindWhichRoundFrom 21 = .ok (.iconst 0, 1) := by decide +kernel
theorem dX6_behindWhichRoundFrom_22 : decode cX6_behindWhichRoundFrom 22 = .ok (.istore 4, 2) := by decide +kernel
theorem dX6_behindWhichRoundFrom_24 : decode cX6_behindWhichRoundFrom 24 = .ok (.iload 4, 2) := by decide +kernel
theorem dX6_behindWhichRoundFrom_26 : decode cX6_behindWhichRoundFrom 26 = .ok (.iload_n 3, 1) := by decide +kernel
theorem dX6_behindWhichRoundFrom_27 : decode cX6_behindWhichRoundFrom 27 = .ok (.if_icmp .ge 31, 3) := by decide +kernel
theorem dX6_behindWhichRoundFrom_30 : decode cX6_behindWhichRoundFrom 30 = .ok (.aload_n 0, 1) := by decide +kernel
theorem dX6_behindWhichRoundFrom_31 : decode cX6_behindWhichRoundFrom 31 = .ok (.getfield 32, 3) := by decide +kernel
theorem dX6_behindWhichRoundFrom_34 : decode cX6_behindWhichRoundFrom 34 = .ok (.getfield 124, 3) := by decide +kernel
theorem dX6_behindWhichRoundFrom_37 : decode cX6_behindWhichRoundFrom 37 = .ok (.iload_n 1, 1) := by decide +kernel
theorem dX6_behindWhichRoundFrom_38 : decode cX6_behindWhichRoundFrom 38 = .ok (.iaload, 1) := by decide +kernel
theorem dX6_behindWhichRoundFrom_39 : decode cX6_behindWhichRoundFrom 39 = .ok (.ifCond .ne 6, 3) := by decide +kernel
theorem dX6_behindWhichRoundFrom_42 : decode cX6_behindWhichRoundFrom 42 = .ok (.iload 4, 2) := by decide +kernel
theorem dX6_behindWhichRoundFrom_44 : decode cX6_behindWhichRoundFrom 44 = .ok (.ireturn, 1) := by decide +kernel
theorem dX6_behindWhichRoundFrom_45 : decode cX6_behindWhichRoundFrom 45 = .ok (.aload_n 0, 1) := by decide +kernel
theorem dX6_behindWhichRoundFrom_46 : decode cX6_behindWhichRoundFrom 46 = .ok (.getfield 32, 3) := by decide +kernel
theorem dX6_behindWhichRoundFrom_49 : decode cX6_behindWhichRoundFrom 49 = .ok (.invokevirtual 113, 3) := by decide +kernel
theorem dX6_behindWhichRoundFrom_52 : decode cX6_behindWhichRoundFrom 52 = .ok (.iinc 4 1, 3) := by decide +kernel
theorem dX6_behindWhichRoundFrom_55 : decode cX6_behindWhichRoundFrom 55 = .ok (.goto (-31), 3) := by decide +kernel
theorem dX6_behindWhichRoundFrom_58 : decode cX6_behindWhichRoundFrom 58 = .ok (.iload_n 3, 1) := by decide +kernel
theorem dX6_behindWhichRoundFrom_59 : decode cX6_behindWhichRoundFrom 59 = .ok (.ireturn, 1) := by decide +kernel
theorem dX6_howManyRoundBySeed_0 : decode cX6_howManyRoundBySeed 0 = .ok (.aload_n 0, 1) := by decide +kernel
theorem dX6_howManyRoundBySeed_1 : decode cX6_howManyRoundBySeed 1 = .ok (.getfield 32, 3) := by decide +kernel
theorem dX6_howManyRoundBySeed_4 : decode cX6_howManyRoundBySeed 4 = .ok (.aload_n 0, 1) := by decide +kernel
theorem dX6_howManyRoundBySeed_5 : decode cX6_howManyRoundBySeed 5 = .ok (.getfield 28, 3) := by decide +kernel
theorem dX6_howManyRoundBySeed_8 : decode cX6_howManyRoundBySeed 8 = .ok (.invokevirtual 120, 3) := by decide +kernel
theorem dX6_howManyRoundBySeed_11 : decode cX6_howManyRoundBySeed 11 = .ok (.iload_n 1, 1) := by decide +kernel
theorem dX6_howManyRoundBySeed_12 : decode cX6_howManyRoundBySeed 12 = .ok (.istore_n 3, 1) := by decide +kernel
theorem dX6_howManyRoundBySeed_13 : decode cX6_howManyRoundBySeed 13 = .ok (.iconst 0, 1) := by decide +kernel
theorem dX6_howManyRoundBySeed_14 : decode cX6_howManyRoundBySeed 14 = .ok (.istore 4, 2) := by decide +kernel
theorem dX6_howManyRoundBySeed_16 : decode cX6_howManyRoundBySeed 16 = .ok (.iload 4, 2) := by decide +kernel
theorem dX6_howManyRoundBySeed_18 : decode cX6_howManyRoundBySeed 18 = .ok (.iload_n 2, 1) := by decide +kernel
theorem dX6_howManyRoundBySeed_19 : decode cX6_howManyRoundBySeed 19 = .ok (.if_icmp .ge 59, 3) := by decide +kernel
theorem dX6_howManyRoundBySeed_22 : decode cX6_howManyRoundBySeed 22 = .ok (.iload_n 3, 1) := by decide +kernel
theorem dX6_howManyRoundBySeed_23 : decode cX6_howManyRoundBySeed 23 = .ok (.ldc_w 265, 3) := by decide +kernel
theorem dX6_howManyRoundBySeed_26 : decode cX6_howManyRoundBySeed 26 = .ok (.imul, 1) := by decide +kernel
theorem dX6_howManyRoundBySeed_27 : decode cX6_howManyRoundBySeed 27 = .ok (.sipush 12345, 3) := by decide +kernel
theorem dX6_howManyRoundBySeed_30 : decode cX6_howManyRoundBySeed 30 = .ok (.iadd, 1) := by decide +kernel
theorem dX6_howManyRoundBySeed_31 : decode cX6_howManyRoundBySeed 31 = .ok (.istore_n 3, 1) := by decide +kernel
theorem dX6_howManyRoundBySeed_32 : decode cX6_howManyRoundBySeed 32 = .ok (.iload_n 3, 1) := by decide +kernel
theorem dX6_howManyRoundBySeed_33 : decode cX6_howManyRoundBySeed 33 = .ok (.bipush 9, 2) := by decide +kernel
theorem dX6_howManyRoundBySeed_35 : decode cX6_howManyRoundBySeed 35 = .ok (.iushr, 1) := by decide +kernel
theorem dX6_howManyRoundBySeed_36 : decode cX6_howManyRoundBySeed 36 = .ok (.bipush 16, 2) := by decide +kernel
theorem dX6_howManyRoundBySeed_38 : decode cX6_howManyRoundBySeed 38 = .ok (.irem, 1) := by decide +kernel
theorem dX6_howManyRoundBySeed_39 : decode cX6_howManyRoundBySeed 39 = .ok (.istore 5, 2) := by decide +kernel
theorem dX6_howManyRoundBySeed_41 : decode cX6_howManyRoundBySeed 41 = .ok (.iload 5, 2) := by decide +kernel
theorem dX6_howManyRoundBySeed_43 : decode cX6_howManyRoundBySeed 43 = .ok (.aload_n 0, 1) := by decide +kernel
theorem dX6_howManyRoundBySeed_44 : decode cX6_howManyRoundBySeed 44 = .ok (.getfield 32, 3) := by decide +kernel
theorem dX6_howManyRoundBySeed_47 : decode cX6_howManyRoundBySeed 47 = .ok (.getfield 189, 3) := by decide +kernel
theorem dX6_howManyRoundBySeed_50 : decode cX6_howManyRoundBySeed 50 = .ok (.if_icmp .ge 15, 3) := by decide +kernel
theorem dX6_howManyRoundBySeed_53 : decode cX6_howManyRoundBySeed 53 = .ok (.aload_n 0, 1) := by decide +kernel
theorem dX6_howManyRoundBySeed_54 : decode cX6_howManyRoundBySeed 54 = .ok (.getfield 32, 3) := by decide +kernel
theorem dX6_howManyRoundBySeed_57 : decode cX6_howManyRoundBySeed 57 = .ok (.getfield 124, 3) := by decide +kernel
theorem dX6_howManyRoundBySeed_60 : decode cX6_howManyRoundBySeed 60 = .ok (.iload 5, 2) := by decide +kernel
theorem dX6_howManyRoundBySeed_62 : decode cX6_howManyRoundBySeed 62 = .ok (.bipush 99, 2) := by decide +kernel
theorem dX6_howManyRoundBySeed_64 : decode cX6_howManyRoundBySeed 64 = .ok (.iastore, 1) := by decide +kernel
theorem dX6_howManyRoundBySeed_65 : decode cX6_howManyRoundBySeed 65 = .ok (.aload_n 0, 1) := by decide +kernel
theorem dX6_howManyRoundBySeed_66 : decode cX6_howManyRoundBySeed 66 = .ok (.getfield 32, 3) := by decide +kernel
theorem dX6_howManyRoundBySeed_69 : decode cX6_howManyRoundBySeed 69 = .ok (.invokevirtual 113, 3) := by decide +kernel
theorem dX6_howManyRoundBySeed_72 : decode cX6_howManyRoundBySeed 72 = .ok (.iinc 4 1, 3) := by decide +kernel
theorem dX6_howManyRoundBySeed_75 : decode cX6_howManyRoundBySeed 75 = .ok (.goto (-59), 3) := by decide +kernel
theorem dX6_howManyRoundBySeed_78 : decode cX6_howManyRoundBySeed 78 = .ok (.aload_n 0, 1) := by decide +kernel
theorem dX6_howManyRoundBySeed_79 : decode cX6_howManyRoundBySeed 79 = .ok (.getfield 32, 3) := by decide +kernel
theorem dX6_howManyRoundBySeed_82 : decode cX6_howManyRoundBySeed 82 = .ok (.invokevirtual 116, 3) := by decide +kernel
theorem dX6_howManyRoundBySeed_85 : decode cX6_howManyRoundBySeed 85 = .ok (.ireturn, 1) := by decide +kernel
theorem dX6_mostTwos_0 : decode cX6_mostTwos 0 = .ok (.iload_n 2, 1) := by decide +kernel
theorem dX6_mostTwos_1 : decode cX6_mostTwos 1 = .ok (.aload_n 0, 1) := by decide +kernel
theorem dX6_mostTwos_2 : decode cX6_mostTwos 2 = .ok (.getfield 189, 3) := by decide +kernel
theorem dX6_mostTwos_5 : decode cX6_mostTwos 5 = .ok (.if_icmp .lt 5, 3) := by decide +kernel
theorem dX6_mostTwos_8 : decode cX6_mostTwos 8 = .ok (.iconst 0, 1) := by decide +kernel
theorem dX6_mostTwos_9 : decode cX6_mostTwos 9 = .ok (.ireturn, 1) := by decide +kernel
theorem dX6_mostTwos_10 : decode cX6_mostTwos 10 = .ok (.aload_n 0, 1) := by decide +kernel
theorem dX6_mostTwos_11 : decode cX6_mostTwos 11 = .ok (.iload_n 1, 1) := by decide +kernel
theorem dX6_mostTwos_12 : decode cX6_mostTwos 12 = .ok (.iload_n 2, 1) := by decide +kernel
theorem dX6_mostTwos_13 : decode cX6_mostTwos 13 = .ok (.iconst 1, 1) := by decide +kernel
theorem dX6_mostTwos_14 : decode cX6_mostTwos 14 = .ok (.iadd, 1) := by decide +kernel
theorem dX6_mostTwos_15 : decode cX6_mostTwos 15 = .ok (.iload_n 3, 1) := by decide +kernel
theorem dX6_mostTwos_16 : decode cX6_mostTwos 16 = .ok (.invokestatic 181, 3) := by decide +kernel
theorem dX6_mostTwos_19 : decode cX6_mostTwos 19 = .ok (.istore 4, 2) := by decide +kernel
theorem dX6_mostTwos_21 : decode cX6_mostTwos 21 = .ok (.aload_n 0, 1) := by decide +kernel
theorem dX6_mostTwos_22 : decode cX6_mostTwos 22 = .ok (.getfield 266, 3) := by decide +kernel
theorem dX6_mostTwos_25 : decode cX6_mostTwos 25 = .ok (.iload_n 2, 1) := by decide +kernel
theorem dX6_mostTwos_26 : decode cX6_mostTwos 26 = .ok (.iaload, 1) := by decide +kernel
theorem dX6_mostTwos_27 : decode cX6_mostTwos 27 = .ok (.ifCond .eq 6, 3) := by decide +kernel
theorem dX6_mostTwos_30 : decode cX6_mostTwos 30 = .ok (.iload 4, 2) := by decide +kernel
theorem dX6_mostTwos_32 : decode cX6_mostTwos 32 = .ok (.ireturn, 1) := by decide +kernel
theorem dX6_mostTwos_33 : decode cX6_mostTwos 33 = .ok (.iconst 0, 1) := by decide +kernel
theorem dX6_mostTwos_34 : decode cX6_mostTwos 34 = .ok (.istore 5, 2) := by decide +kernel
theorem dX6_mostTwos_36 : decode cX6_mostTwos 36 = .ok (.iload 5, 2) := by decide +kernel
theorem dX6_mostTwos_38 : decode cX6_mostTwos 38 = .ok (.aload_n 0, 1) := by decide +kernel
theorem dX6_mostTwos_39 : decode cX6_mostTwos 39 = .ok (.getfield 189, 3) := by decide +kernel
theorem dX6_mostTwos_42 : decode cX6_mostTwos 42 = .ok (.if_icmp .ge 52, 3) := by decide +kernel
theorem dX6_mostTwos_45 : decode cX6_mostTwos 45 = .ok (.iload_n 3, 1) := by decide +kernel
theorem dX6_mostTwos_46 : decode cX6_mostTwos 46 = .ok (.iconst 1, 1) := by decide +kernel
theorem dX6_mostTwos_47 : decode cX6_mostTwos 47 = .ok (.iload 5, 2) := by decide +kernel
theorem dX6_mostTwos_49 : decode cX6_mostTwos 49 = .ok (.ishl, 1) := by decide +kernel
theorem dX6_mostTwos_50 : decode cX6_mostTwos 50 = .ok (.iand, 1) := by decide +kernel
theorem dX6_mostTwos_51 : decode cX6_mostTwos 51 = .ok (.ifCond .ne 37, 3) := by decide +kernel
theorem dX6_mostTwos_54 : decode cX6_mostTwos 54 = .ok (.aload_n 0, 1) := by decide +kernel
theorem dX6_mostTwos_55 : decode cX6_mostTwos 55 = .ok (.iload_n 2, 1) := by decide +kernel
theorem dX6_mostTwos_56 : decode cX6_mostTwos 56 = .ok (.iload 5, 2) := by decide +kernel
theorem dX6_mostTwos_58 : decode cX6_mostTwos 58 = .ok (.iload_n 1, 1) := by decide +kernel
theorem dX6_mostTwos_59 : decode cX6_mostTwos 59 = .ok (.invokevirtual 269, 3) := by decide +kernel
theorem dX6_mostTwos_62 : decode cX6_mostTwos 62 = .ok (.ifCond .eq 26, 3) := by decide +kernel
theorem dX6_mostTwos_65 : decode cX6_mostTwos 65 = .ok (.iload 4, 2) := by decide +kernel
theorem dX6_mostTwos_67 : decode cX6_mostTwos 67 = .ok (.iconst 1, 1) := by decide +kernel
theorem dX6_mostTwos_68 : decode cX6_mostTwos 68 = .ok (.aload_n 0, 1) := by decide +kernel
theorem dX6_mostTwos_69 : decode cX6_mostTwos 69 = .ok (.iload_n 1, 1) := by decide +kernel
theorem dX6_mostTwos_70 : decode cX6_mostTwos 70 = .ok (.iload_n 2, 1) := by decide +kernel
theorem dX6_mostTwos_71 : decode cX6_mostTwos 71 = .ok (.iconst 1, 1) := by decide +kernel
theorem dX6_mostTwos_72 : decode cX6_mostTwos 72 = .ok (.iadd, 1) := by decide +kernel
theorem dX6_mostTwos_73 : decode cX6_mostTwos 73 = .ok (.iload_n 3, 1) := by decide +kernel
theorem dX6_mostTwos_74 : decode cX6_mostTwos 74 = .ok (.iconst 1, 1) := by decide +kernel
theorem dX6_mostTwos_75 : decode cX6_mostTwos 75 = .ok (.iload 5, 2) := by decide +kernel
theorem dX6_mostTwos_77 : decode cX6_mostTwos 77 = .ok (.ishl, 1) := by decide +kernel
theorem dX6_mostTwos_78 : decode cX6_mostTwos 78 = .ok (.ior, 1) := by decide +kernel
theorem dX6_mostTwos_79 : decode cX6_mostTwos 79 = .ok (.invokestatic 181, 3) := by decide +kernel
theorem dX6_mostTwos_82 : decode cX6_mostTwos 82 = .ok (.iadd, 1) := by decide +kernel
theorem dX6_mostTwos_83 : decode cX6_mostTwos 83 = .ok (.invokestatic 259, 3) := by decide +kernel
theorem dX6_mostTwos_86 : decode cX6_mostTwos 86 = .ok (.istore 4, 2) := by decide +kernel
theorem dX6_mostTwos_88 : decode cX6_mostTwos 88 = .ok (.iinc 5 1, 3) := by decide +kernel
theorem dX6_mostTwos_91 : decode cX6_mostTwos 91 = .ok (.goto (-55), 3) := by decide +kernel
theorem dX6_mostTwos_94 : decode cX6_mostTwos 94 = .ok (.iload 4, 2) := by decide +kernel
theorem dX6_mostTwos_96 : decode cX6_mostTwos 96 = .ok (.ireturn, 1) := by decide +kernel
theorem dX6_firstOtherwise_0 : decode cX6_firstOtherwise 0 = .ok (.iconst 0, 1) := by decide +kernel
theorem dX6_firstOtherwise_1 : decode cX6_firstOtherwise 1 = .ok (.istore_n 3, 1) := by decide +kernel
theorem dX6_firstOtherwise_2 : decode cX6_firstOtherwise 2 = .ok (.iload_n 3, 1) := by decide +kernel
theorem dX6_firstOtherwise_3 : decode cX6_firstOtherwise 3 = .ok (.aload_n 1, 1) := by decide +kernel
theorem dX6_firstOtherwise_4 : decode cX6_firstOtherwise 4 = .ok (.getfield 156, 3) := by decide +kernel
theorem dX6_firstOtherwise_7 : decode cX6_firstOtherwise 7 = .ok (.if_icmp .ge 36, 3) := by decide +kernel
theorem dX6_firstOtherwise_10 : decode cX6_firstOtherwise 10 = .ok (.aload_n 0, 1) := by decide +kernel
theorem dX6_firstOtherwise_11 : decode cX6_firstOtherwise 11 = .ok (.getfield 32, 3) := by decide +kernel
theorem dX6_firstOtherwise_14 : decode cX6_firstOtherwise 14 = .ok (.getfield 124, 3) := by decide +kernel
theorem dX6_firstOtherwise_17 : decode cX6_firstOtherwise 17 = .ok (.iload_n 2, 1) := by decide +kernel
theorem dX6_firstOtherwise_18 : decode cX6_firstOtherwise 18 = .ok (.iaload, 1) := by decide +kernel
theorem dX6_firstOtherwise_19 : decode cX6_firstOtherwise 19 = .ok (.aload_n 1, 1) := by decide +kernel
theorem dX6_firstOtherwise_20 : decode cX6_firstOtherwise 20 = .ok (.getfield 157, 3) := by decide +kernel
theorem dX6_firstOtherwise_23 : decode cX6_firstOtherwise 23 = .ok (.iload_n 3, 1) := by decide +kernel
theorem dX6_firstOtherwise_24 : decode cX6_firstOtherwise 24 = .ok (.iaload, 1) := by decide +kernel
theorem dX6_firstOtherwise_25 : decode cX6_firstOtherwise 25 = .ok (.if_icmp .eq 5, 3) := by decide +kernel
theorem dX6_firstOtherwise_28 : decode cX6_firstOtherwise 28 = .ok (.iload_n 3, 1) := by decide +kernel
theorem dX6_firstOtherwise_29 : decode cX6_firstOtherwise 29 = .ok (.ireturn, 1) := by decide +kernel
theorem dX6_firstOtherwise_30 : decode cX6_firstOtherwise 30 = .ok (.aload_n 0, 1) := by decide +kernel
theorem dX6_firstOtherwise_31 : decode cX6_firstOtherwise 31 = .ok (.getfield 32, 3) := by decide +kernel
theorem dX6_firstOtherwise_34 : decode cX6_firstOtherwise 34 = .ok (.invokevirtual 113, 3) := by decide +kernel
theorem dX6_firstOtherwise_37 : decode cX6_firstOtherwise 37 = .ok (.iinc 3 1, 3) := by decide +kernel
theorem dX6_firstOtherwise_40 : decode cX6_firstOtherwise 40 = .ok (.goto (-38), 3) := by decide +kernel
theorem dX6_firstOtherwise_43 : decode cX6_firstOtherwise 43 = .ok (.iconst (-1), 1) := by decide +kernel
theorem dX6_firstOtherwise_44 : decode cX6_firstOtherwise 44 = .ok (.ireturn, 1) := by decide +kernel
theorem dX6_isSoWith_0 : decode cX6_isSoWith 0 = .ok (.aload_n 0, 1) := by decide +kernel
theorem dX6_isSoWith_1 : decode cX6_isSoWith 1 = .ok (.getfield 32, 3) := by decide +kernel
theorem dX6_isSoWith_4 : decode cX6_isSoWith 4 = .ok (.aload_n 0, 1) := by decide +kernel
theorem dX6_isSoWith_5 : decode cX6_isSoWith 5 = .ok (.getfield 28, 3) := by decide +kernel
theorem dX6_isSoWith_8 : decode cX6_isSoWith 8 = .ok (.invokevirtual 120, 3) := by decide +kernel
theorem dX6_isSoWith_11 : decode cX6_isSoWith 11 = .ok (.aload_n 0, 1) := by decide +kernel
theorem dX6_isSoWith_12 : decode cX6_isSoWith 12 = .ok (.getfield 32, 3) := by decide +kernel
theorem dX6_isSoWith_15 : decode cX6_isSoWith 15 = .ok (.iload_n 3, 1) := by decide +kernel
theorem dX6_isSoWith_16 : decode cX6_isSoWith 16 = .ok (.invokevirtual 72, 3) := by decide +kernel
theorem dX6_isSoWith_19 : decode cX6_isSoWith 19 = .ok (.iload_n 2, 1) := by decide +kernel
theorem dX6_isSoWith_20 : decode cX6_isSoWith 20 = .ok (.iload 4, 2) := by decide +kernel
theorem dX6_isSoWith_22 : decode cX6_isSoWith 22 = .ok (.iastore, 1) := by decide +kernel
theorem dX6_isSoWith_23 : decode cX6_isSoWith 23 = .ok (.aload_n 0, 1) := by decide +kernel
theorem dX6_isSoWith_24 : decode cX6_isSoWith 24 = .ok (.aload_n 1, 1) := by decide +kernel
theorem dX6_isSoWith_25 : decode cX6_isSoWith 25 = .ok (.iload_n 2, 1) := by decide +kernel
theorem dX6_isSoWith_26 : decode cX6_isSoWith 26 = .ok (.invokevirtual 196, 3) := by decide +kernel
theorem dX6_isSoWith_29 : decode cX6_isSoWith 29 = .ok (.iconst (-1), 1) := by decide +kernel
theorem dX6_isSoWith_30 : decode cX6_isSoWith 30 = .ok (.if_icmp .ne 7, 3) := by decide +kernel
theorem dX6_isSoWith_33 : decode cX6_isSoWith 33 = .ok (.iconst 1, 1) := by decide +kernel
theorem dX6_isSoWith_34 : decode cX6_isSoWith 34 = .ok (.goto 4, 3) := by decide +kernel
theorem dX6_isSoWith_37 : decode cX6_isSoWith 37 = .ok (.iconst 0, 1) := by decide +kernel
theorem dX6_isSoWith_38 : decode cX6_isSoWith 38 = .ok (.ireturn, 1) := by decide +kernel
theorem dX6_whichAreSo_0 : decode cX6_whichAreSo 0 = .ok (.iconst 0, 1) := by decide +kernel
theorem dX6_whichAreSo_1 : decode cX6_whichAreSo 1 = .ok (.istore 4, 2) := by decide +kernel
theorem dX6_whichAreSo_3 : decode cX6_whichAreSo 3 = .ok (.iconst 0, 1) := by decide +kernel
theorem dX6_whichAreSo_4 : decode cX6_whichAreSo 4 = .ok (.istore 5, 2) := by decide +kernel
theorem dX6_whichAreSo_6 : decode cX6_whichAreSo 6 = .ok (.iload 5, 2) := by decide +kernel
theorem dX6_whichAreSo_8 : decode cX6_whichAreSo 8 = .ok (.getstatic 64, 3) := by decide +kernel
theorem dX6_whichAreSo_11 : decode cX6_whichAreSo 11 = .ok (.iload_n 3, 1) := by decide +kernel
theorem dX6_whichAreSo_12 : decode cX6_whichAreSo 12 = .ok (.iaload, 1) := by decide +kernel
theorem dX6_whichAreSo_13 : decode cX6_whichAreSo 13 = .ok (.if_icmp .gt 30, 3) := by decide +kernel
theorem dX6_whichAreSo_16 : decode cX6_whichAreSo 16 = .ok (.aload_n 0, 1) := by decide +kernel
theorem dX6_whichAreSo_17 : decode cX6_whichAreSo 17 = .ok (.aload_n 1, 1) := by decide +kernel
theorem dX6_whichAreSo_18 : decode cX6_whichAreSo 18 = .ok (.iload_n 2, 1) := by decide +kernel
theorem dX6_whichAreSo_19 : decode cX6_whichAreSo 19 = .ok (.iload_n 3, 1) := by decide +kernel
theorem dX6_whichAreSo_20 : decode cX6_whichAreSo 20 = .ok (.iload 5, 2) := by decide +kernel
theorem dX6_whichAreSo_22 : decode cX6_whichAreSo 22 = .ok (.invokevirtual 272, 3) := by decide +kernel
theorem dX6_whichAreSo_25 : decode cX6_whichAreSo 25 = .ok (.ifCond .eq 12, 3) := by decide +kernel
theorem dX6_whichAreSo_28 : decode cX6_whichAreSo 28 = .ok (.iload 4, 2) := by decide +kernel
theorem dX6_whichAreSo_30 : decode cX6_whichAreSo 30 = .ok (.iconst 1, 1) := by decide +kernel
theorem dX6_whichAreSo_31 : decode cX6_whichAreSo 31 = .ok (.iload 5, 2) := by decide +kernel
theorem dX6_whichAreSo_33 : decode cX6_whichAreSo 33 = .ok (.ishl, 1) := by decide +kernel
theorem dX6_whichAreSo_34 : decode cX6_whichAreSo 34 = .ok (.ior, 1) := by decide +kernel
theorem dX6_whichAreSo_35 : decode cX6_whichAreSo 35 = .ok (.istore 4, 2) := by decide +kernel
theorem dX6_whichAreSo_37 : decode cX6_whichAreSo 37 = .ok (.iinc 5 1, 3) := by decide +kernel
theorem dX6_whichAreSo_40 : decode cX6_whichAreSo 40 = .ok (.goto (-34), 3) := by decide +kernel
theorem dX6_whichAreSo_43 : decode cX6_whichAreSo 43 = .ok (.iload 4, 2) := by decide +kernel
theorem dX6_whichAreSo_45 : decode cX6_whichAreSo 45 = .ok (.ireturn, 1) := by decide +kernel
theorem dX6_howManySharpsAreSo_0 : decode cX6_howManySharpsAreSo 0 = .ok (.iconst 0, 1) := by decide +kernel
theorem dX6_howManySharpsAreSo_1 : decode cX6_howManySharpsAreSo 1 = .ok (.istore_n 3, 1) := by decide +kernel
theorem dX6_howManySharpsAreSo_2 : decode cX6_howManySharpsAreSo 2 = .ok (.iconst 0, 1) := by decide +kernel
theorem dX6_howManySharpsAreSo_3 : decode cX6_howManySharpsAreSo 3 = .ok (.istore 4, 2) := by decide +kernel
theorem dX6_howManySharpsAreSo_5 : decode cX6_howManySharpsAreSo 5 = .ok (.iload 4, 2) := by decide +kernel
theorem dX6_howManySharpsAreSo_7 : decode cX6_howManySharpsAreSo 7 = .ok (.bipush 99, 2) := by decide +kernel
theorem dX6_howManySharpsAreSo_9 : decode cX6_howManySharpsAreSo 9 = .ok (.if_icmp .gt 24, 3) := by decide +kernel
theorem dX6_howManySharpsAreSo_12 : decode cX6_howManySharpsAreSo 12 = .ok (.aload_n 0, 1) := by decide +kernel
theorem dX6_howManySharpsAreSo_13 : decode cX6_howManySharpsAreSo 13 = .ok (.aload_n 1, 1) := by decide +kernel
theorem dX6_howManySharpsAreSo_14 : decode cX6_howManySharpsAreSo 14 = .ok (.iload_n 2, 1) := by decide +kernel
theorem dX6_howManySharpsAreSo_15 : decode cX6_howManySharpsAreSo 15 = .ok (.iconst 2, 1) := by decide +kernel
theorem dX6_howManySharpsAreSo_16 : decode cX6_howManySharpsAreSo 16 = .ok (.iload 4, 2) := by decide +kernel
theorem dX6_howManySharpsAreSo_18 : decode cX6_howManySharpsAreSo 18 = .ok (.invokevirtual 272, 3) := by decide +kernel
theorem dX6_howManySharpsAreSo_21 : decode cX6_howManySharpsAreSo 21 = .ok (.ifCond .eq 6, 3) := by decide +kernel
theorem dX6_howManySharpsAreSo_24 : decode cX6_howManySharpsAreSo 24 = .ok (.iinc 3 1, 3) := by decide +kernel
theorem dX6_howManySharpsAreSo_27 : decode cX6_howManySharpsAreSo 27 = .ok (.iinc 4 1, 3) := by decide +kernel
theorem dX6_howManySharpsAreSo_30 : decode cX6_howManySharpsAreSo 30 = .ok (.goto (-25), 3) := by decide +kernel
theorem dX6_howManySharpsAreSo_33 : decode cX6_howManySharpsAreSo 33 = .ok (.iload_n 3, 1) := by decide +kernel
theorem dX6_howManySharpsAreSo_34 : decode cX6_howManySharpsAreSo 34 = .ok (.ireturn, 1) := by decide +kernel
theorem dX6_leastSharpThatIsSo_0 : decode cX6_leastSharpThatIsSo 0 = .ok (.iconst 0, 1) := by decide +kernel
theorem dX6_leastSharpThatIsSo_1 : decode cX6_leastSharpThatIsSo 1 = .ok (.istore_n 3, 1) := by decide +kernel
theorem dX6_leastSharpThatIsSo_2 : decode cX6_leastSharpThatIsSo 2 = .ok (.iload_n 3, 1) := by decide +kernel
theorem dX6_leastSharpThatIsSo_3 : decode cX6_leastSharpThatIsSo 3 = .ok (.bipush 99, 2) := by decide +kernel
theorem dX6_leastSharpThatIsSo_5 : decode cX6_leastSharpThatIsSo 5 = .ok (.if_icmp .gt 22, 3) := by decide +kernel
theorem dX6_leastSharpThatIsSo_8 : decode cX6_leastSharpThatIsSo 8 = .ok (.aload_n 0, 1) := by decide +kernel
theorem dX6_leastSharpThatIsSo_9 : decode cX6_leastSharpThatIsSo 9 = .ok (.aload_n 1, 1) := by decide +kernel
theorem dX6_leastSharpThatIsSo_10 : decode cX6_leastSharpThatIsSo 10 = .ok (.iload_n 2, 1) := by decide +kernel
theorem dX6_leastSharpThatIsSo_11 : decode cX6_leastSharpThatIsSo 11 = .ok (.iconst 2, 1) := by decide +kernel
theorem dX6_leastSharpThatIsSo_12 : decode cX6_leastSharpThatIsSo 12 = .ok (.iload_n 3, 1) := by decide +kernel
theorem dX6_leastSharpThatIsSo_13 : decode cX6_leastSharpThatIsSo 13 = .ok (.invokevirtual 272, 3) := by decide +kernel
theorem dX6_leastSharpThatIsSo_16 : decode cX6_leastSharpThatIsSo 16 = .ok (.ifCond .eq 5, 3) := by decide +kernel
theorem dX6_leastSharpThatIsSo_19 : decode cX6_leastSharpThatIsSo 19 = .ok (.iload_n 3, 1) := by decide +kernel
theorem dX6_leastSharpThatIsSo_20 : decode cX6_leastSharpThatIsSo 20 = .ok (.ireturn, 1) := by decide +kernel
theorem dX6_leastSharpThatIsSo_21 : decode cX6_leastSharpThatIsSo 21 = .ok (.iinc 3 1, 3) := by decide +kernel
theorem dX6_leastSharpThatIsSo_24 : decode cX6_leastSharpThatIsSo 24 = .ok (.goto (-22), 3) := by decide +kernel
theorem dX6_leastSharpThatIsSo_27 : decode cX6_leastSharpThatIsSo 27 = .ok (.iconst (-1), 1) := by decide +kernel
theorem dX6_leastSharpThatIsSo_28 : decode cX6_leastSharpThatIsSo 28 = .ok (.ireturn, 1) := by decide +kernel
theorem dX6_whichTextsAreSo_0 : decode cX6_whichTextsAreSo 0 = .ok (.iconst 0, 1) := by decide +kernel
theorem dX6_whichTextsAreSo_1 : decode cX6_whichTextsAreSo 1 = .ok (.istore_n 3, 1) := by decide +kernel
theorem dX6_whichTextsAreSo_2 : decode cX6_whichTextsAreSo 2 = .ok (.iconst 0, 1) := by decide +kernel
theorem dX6_whichTextsAreSo_3 : decode cX6_whichTextsAreSo 3 = .ok (.istore 4, 2) := by decide +kernel
theorem dX6_whichTextsAreSo_5 : decode cX6_whichTextsAreSo 5 = .ok (.iload 4, 2) := by decide +kernel
theorem dX6_whichTextsAreSo_7 : decode cX6_whichTextsAreSo 7 = .ok (.aload_n 0, 1) := by decide +kernel
theorem dX6_whichTextsAreSo_8 : decode cX6_whichTextsAreSo 8 = .ok (.getfield 10, 3) := by decide +kernel
theorem dX6_whichTextsAreSo_11 : decode cX6_whichTextsAreSo 11 = .ok (.getfield 99, 3) := by decide +kernel
theorem dX6_whichTextsAreSo_14 : decode cX6_whichTextsAreSo 14 = .ok (.if_icmp .ge 46, 3) := by decide +kernel
theorem dX6_whichTextsAreSo_17 : decode cX6_whichTextsAreSo 17 = .ok (.aload_n 0, 1) := by decide +kernel
theorem dX6_whichTextsAreSo_18 : decode cX6_whichTextsAreSo 18 = .ok (.getfield 32, 3) := by decide +kernel
theorem dX6_whichTextsAreSo_21 : decode cX6_whichTextsAreSo 21 = .ok (.aload_n 0, 1) := by decide +kernel
theorem dX6_whichTextsAreSo_22 : decode cX6_whichTextsAreSo 22 = .ok (.getfield 28, 3) := by decide +kernel
theorem dX6_whichTextsAreSo_25 : decode cX6_whichTextsAreSo 25 = .ok (.invokevirtual 120, 3) := by decide +kernel
theorem dX6_whichTextsAreSo_28 : decode cX6_whichTextsAreSo 28 = .ok (.aload_n 0, 1) := by decide +kernel
theorem dX6_whichTextsAreSo_29 : decode cX6_whichTextsAreSo 29 = .ok (.getfield 32, 3) := by decide +kernel
theorem dX6_whichTextsAreSo_32 : decode cX6_whichTextsAreSo 32 = .ok (.iload 4, 2) := by decide +kernel
theorem dX6_whichTextsAreSo_34 : decode cX6_whichTextsAreSo 34 = .ok (.putfield 110, 3) := by decide +kernel
theorem dX6_whichTextsAreSo_37 : decode cX6_whichTextsAreSo 37 = .ok (.aload_n 0, 1) := by decide +kernel
theorem dX6_whichTextsAreSo_38 : decode cX6_whichTextsAreSo 38 = .ok (.aload_n 1, 1) := by decide +kernel
theorem dX6_whichTextsAreSo_39 : decode cX6_whichTextsAreSo 39 = .ok (.iload_n 2, 1) := by decide +kernel
theorem dX6_whichTextsAreSo_40 : decode cX6_whichTextsAreSo 40 = .ok (.invokevirtual 196, 3) := by decide +kernel
theorem dX6_whichTextsAreSo_43 : decode cX6_whichTextsAreSo 43 = .ok (.iconst (-1), 1) := by decide +kernel
theorem dX6_whichTextsAreSo_44 : decode cX6_whichTextsAreSo 44 = .ok (.if_icmp .ne 10, 3) := by decide +kernel
theorem dX6_whichTextsAreSo_47 : decode cX6_whichTextsAreSo 47 = .ok (.iload_n 3, 1) := by decide +kernel
theorem dX6_whichTextsAreSo_48 : decode cX6_whichTextsAreSo 48 = .ok (.iconst 1, 1) := by decide +kernel
theorem dX6_whichTextsAreSo_49 : decode cX6_whichTextsAreSo 49 = .ok (.iload 4, 2) := by decide +kernel
theorem dX6_whichTextsAreSo_51 : decode cX6_whichTextsAreSo 51 = .ok (.ishl, 1) := by decide +kernel
theorem dX6_whichTextsAreSo_52 : decode cX6_whichTextsAreSo 52 = .ok (.ior, 1) := by decide +kernel
theorem dX6_whichTextsAreSo_53 : decode cX6_whichTextsAreSo 53 = .ok (.istore_n 3, 1) := by decide +kernel
theorem dX6_whichTextsAreSo_54 : decode cX6_whichTextsAreSo 54 = .ok (.iinc 4 1, 3) := by decide +kernel
theorem dX6_whichTextsAreSo_57 : decode cX6_whichTextsAreSo 57 = .ok (.goto (-52), 3) := by decide +kernel
theorem dX6_whichTextsAreSo_60 : decode cX6_whichTextsAreSo 60 = .ok (.iload_n 3, 1) := by decide +kernel
theorem dX6_whichTextsAreSo_61 : decode cX6_whichTextsAreSo 61 = .ok (.ireturn, 1) := by decide +kernel
theorem dX6_whichPiecesAreSo_0 : decode cX6_whichPiecesAreSo 0 = .ok (.iconst 0, 1) := by decide +kernel
theorem dX6_whichPiecesAreSo_1 : decode cX6_whichPiecesAreSo 1 = .ok (.istore_n 2, 1) := by decide +kernel
theorem dX6_whichPiecesAreSo_2 : decode cX6_whichPiecesAreSo 2 = .ok (.iconst 0, 1) := by decide +kernel
theorem dX6_whichPiecesAreSo_3 : decode cX6_whichPiecesAreSo 3 = .ok (.istore_n 3, 1) := by decide +kernel
theorem dX6_whichPiecesAreSo_4 : decode cX6_whichPiecesAreSo 4 = .ok (.iload_n 3, 1) := by decide +kernel
theorem dX6_whichPiecesAreSo_5 : decode cX6_whichPiecesAreSo 5 = .ok (.aload_n 0, 1) := by decide +kernel
theorem dX6_whichPiecesAreSo_6 : decode cX6_whichPiecesAreSo 6 = .ok (.getfield 28, 3) := by decide +kernel
theorem dX6_whichPiecesAreSo_9 : decode cX6_whichPiecesAreSo 9 = .ok (.getfield 189, 3) := by decide +kernel
theorem dX6_whichPiecesAreSo_12 : decode cX6_whichPiecesAreSo 12 = .ok (.if_icmp .ge 36, 3) := by decide +kernel
theorem dX6_whichPiecesAreSo_15 : decode cX6_whichPiecesAreSo 15 = .ok (.aload_n 0, 1) := by decide +kernel
theorem dX6_whichPiecesAreSo_16 : decode cX6_whichPiecesAreSo 16 = .ok (.getfield 32, 3) := by decide +kernel
theorem dX6_whichPiecesAreSo_19 : decode cX6_whichPiecesAreSo 19 = .ok (.aload_n 0, 1) := by decide +kernel
theorem dX6_whichPiecesAreSo_20 : decode cX6_whichPiecesAreSo 20 = .ok (.getfield 28, 3) := by decide +kernel
theorem dX6_whichPiecesAreSo_23 : decode cX6_whichPiecesAreSo 23 = .ok (.invokevirtual 120, 3) := by decide +kernel
theorem dX6_whichPiecesAreSo_26 : decode cX6_whichPiecesAreSo 26 = .ok (.aload_n 0, 1) := by decide +kernel
theorem dX6_whichPiecesAreSo_27 : decode cX6_whichPiecesAreSo 27 = .ok (.aload_n 1, 1) := by decide +kernel
theorem dX6_whichPiecesAreSo_28 : decode cX6_whichPiecesAreSo 28 = .ok (.iload_n 3, 1) := by decide +kernel
theorem dX6_whichPiecesAreSo_29 : decode cX6_whichPiecesAreSo 29 = .ok (.invokevirtual 196, 3) := by decide +kernel
theorem dX6_whichPiecesAreSo_32 : decode cX6_whichPiecesAreSo 32 = .ok (.iconst (-1), 1) := by decide +kernel
theorem dX6_whichPiecesAreSo_33 : decode cX6_whichPiecesAreSo 33 = .ok (.if_icmp .ne 9, 3) := by decide +kernel
theorem dX6_whichPiecesAreSo_36 : decode cX6_whichPiecesAreSo 36 = .ok (.iload_n 2, 1) := by decide +kernel
theorem dX6_whichPiecesAreSo_37 : decode cX6_whichPiecesAreSo 37 = .ok (.iconst 1, 1) := by decide +kernel
theorem dX6_whichPiecesAreSo_38 : decode cX6_whichPiecesAreSo 38 = .ok (.iload_n 3, 1) := by decide +kernel
theorem dX6_whichPiecesAreSo_39 : decode cX6_whichPiecesAreSo 39 = .ok (.ishl, 1) := by decide +kernel
theorem dX6_whichPiecesAreSo_40 : decode cX6_whichPiecesAreSo 40 = .ok (.ior, 1) := by decide +kernel
theorem dX6_whichPiecesAreSo_41 : decode cX6_whichPiecesAreSo 41 = .ok (.istore_n 2, 1) := by decide +kernel
theorem dX6_whichPiecesAreSo_42 : decode cX6_whichPiecesAreSo 42 = .ok (.iinc 3 1, 3) := by decide +kernel
theorem dX6_whichPiecesAreSo_45 : decode cX6_whichPiecesAreSo 45 = .ok (.goto (-41), 3) := by decide +kernel
theorem dX6_whichPiecesAreSo_48 : decode cX6_whichPiecesAreSo 48 = .ok (.iload_n 2, 1) := by decide +kernel
theorem dX6_whichPiecesAreSo_49 : decode cX6_whichPiecesAreSo 49 = .ok (.ireturn, 1) := by decide +kernel
theorem dX7_init_0 : decode cX7_init 0 = .ok (.aload_n 0, 1) := by decide +kernel
theorem dX7_init_1 : decode cX7_init 1 = .ok (.invokespecial 1, 3) := by decide +kernel
theorem dX7_init_4 : decode cX7_init 4 = .ok (.aload_n 0, 1) := by decide +kernel
theorem dX7_init_5 : decode cX7_init 5 = .ok (.bipush 43, 2) := by decide +kernel
theorem dX7_init_7 : decode cX7_init 7 = .ok (.newarray .int, 2) := by decide +kernel
theorem dX7_init_9 : decode cX7_init 9 = .ok (.putfield 7, 3) := by decide +kernel
theorem dX7_init_12 : decode cX7_init 12 = .ok (.aload_n 0, 1) := by decide +kernel
theorem dX7_init_13 : decode cX7_init 13 = .ok (.bipush 43, 2) := by decide +kernel
theorem dX7_init_15 : decode cX7_init 15 = .ok (.newarray .int, 2) := by decide +kernel
theorem dX7_init_17 : decode cX7_init 17 = .ok (.putfield 13, 3) := by decide +kernel
theorem dX7_init_20 : decode cX7_init 20 = .ok (.aload_n 0, 1) := by decide +kernel
theorem dX7_init_21 : decode cX7_init 21 = .ok (.bipush 43, 2) := by decide +kernel
theorem dX7_init_23 : decode cX7_init 23 = .ok (.newarray .int, 2) := by decide +kernel
theorem dX7_init_25 : decode cX7_init 25 = .ok (.putfield 16, 3) := by decide +kernel
theorem dX7_init_28 : decode cX7_init 28 = .ok (.aload_n 0, 1) := by decide +kernel
theorem dX7_init_29 : decode cX7_init 29 = .ok (.sipush 160, 3) := by decide +kernel
theorem dX7_init_32 : decode cX7_init 32 = .ok (.newarray .int, 2) := by decide +kernel
theorem dX7_init_34 : decode cX7_init 34 = .ok (.putfield 19, 3) := by decide +kernel
theorem dX7_init_37 : decode cX7_init 37 = .ok (.aload_n 0, 1) := by decide +kernel
theorem dX7_init_38 : decode cX7_init 38 = .ok (.sipush 960, 3) := by decide +kernel
theorem dX7_init_41 : decode cX7_init 41 = .ok (.newarray .int, 2) := by decide +kernel
theorem dX7_init_43 : decode cX7_init 43 = .ok (.putfield 22, 3) := by decide +kernel
theorem dX7_init_46 : decode cX7_init 46 = .ok (.aload_n 0, 1) := by decide +kernel
theorem dX7_init_47 : decode cX7_init 47 = .ok (.bipush 18, 2) := by decide +kernel
theorem dX7_init_49 : decode cX7_init 49 = .ok (.newarray .int, 2) := by decide +kernel
theorem dX7_init_51 : decode cX7_init 51 = .ok (.putfield 25, 3) := by decide +kernel
theorem dX7_init_54 : decode cX7_init 54 = .ok (.aload_n 0, 1) := by decide +kernel
theorem dX7_init_55 : decode cX7_init 55 = .ok (.aload_n 0, 1) := by decide +kernel
theorem dX7_init_56 : decode cX7_init 56 = .ok (.invokevirtual 28, 3) := by decide +kernel
theorem dX7_init_59 : decode cX7_init 59 = .ok (.putfield 32, 3) := by decide +kernel
theorem dX7_init_62 : decode cX7_init 62 = .ok (.aload_n 0, 1) := by decide +kernel
theorem dX7_init_63 : decode cX7_init 63 = .ok (.bipush 84, 2) := by decide +kernel
theorem dX7_init_65 : decode cX7_init 65 = .ok (.newarray .char, 2) := by decide +kernel
theorem dX7_init_67 : decode cX7_init 67 = .ok (.dup, 1) := by decide +kernel
theorem dX7_init_68 : decode cX7_init 68 = .ok (.iconst 0, 1) := by decide +kernel
theorem dX7_init_69 : decode cX7_init 69 = .ok (.bipush 115, 2) := by decide +kernel
theorem dX7_init_71 : decode cX7_init 71 = .ok (.castore, 1) := by decide +kernel
theorem dX7_init_72 : decode cX7_init 72 = .ok (.dup, 1) := by decide +kernel
theorem dX7_init_73 : decode cX7_init 73 = .ok (.iconst 1, 1) := by decide +kernel
theorem dX7_init_74 : decode cX7_init 74 = .ok (.bipush 104, 2) := by decide +kernel
theorem dX7_init_76 : decode cX7_init 76 = .ok (.castore, 1) := by decide +kernel
theorem dX7_init_77 : decode cX7_init 77 = .ok (.dup, 1) := by decide +kernel
theorem dX7_init_78 : decode cX7_init 78 = .ok (.iconst 2, 1) := by decide +kernel
theorem dX7_init_79 : decode cX7_init 79 = .ok (.bipush 97, 2) := by decide +kernel
theorem dX7_init_81 : decode cX7_init 81 = .ok (.castore, 1) := by decide +kernel
theorem dX7_init_82 : decode cX7_init 82 = .ok (.dup, 1) := by decide +kernel
theorem dX7_init_83 : decode cX7_init 83 = .ok (.iconst 3, 1) := by decide +kernel
theorem dX7_init_84 : decode cX7_init 84 = .ok (.bipush 114, 2) := by decide +kernel
theorem dX7_init_86 : decode cX7_init 86 = .ok (.castore, 1) := by decide +kernel
theorem dX7_init_87 : decode cX7_init 87 = .ok (.dup, 1) := by decide +kernel
theorem dX7_init_88 : decode cX7_init 88 = .ok (.iconst 4, 1) := by decide +kernel
theorem dX7_init_89 : decode cX7_init 89 = .ok (.bipush 112, 2) := by decide +kernel
theorem dX7_init_91 : decode cX7_init 91 = .ok (.castore, 1) := by decide +kernel
theorem dX7_init_92 : decode cX7_init 92 = .ok (.dup, 1) := by decide +kernel
theorem dX7_init_93 : decode cX7_init 93 = .ok (.iconst 5, 1) := by decide +kernel
theorem dX7_init_94 : decode cX7_init 94 = .ok (.iconst 0, 1) := by decide +kernel
theorem dX7_init_95 : decode cX7_init 95 = .ok (.castore, 1) := by decide +kernel
theorem dX7_init_96 : decode cX7_init 96 = .ok (.dup, 1) := by decide +kernel
theorem dX7_init_97 : decode cX7_init 97 = .ok (.bipush 6, 2) := by decide +kernel
theorem dX7_init_99 : decode cX7_init 99 = .ok (.iconst 0, 1) := by decide +kernel
theorem dX7_init_100 : decode cX7_init 100 = .ok (.castore, 1) := by decide +kernel
theorem dX7_init_101 : decode cX7_init 101 = .ok (.dup, 1) := by decide +kernel
theorem dX7_init_102 : decode cX7_init 102 = .ok (.bipush 7, 2) := by decide +kernel
theorem dX7_init_104 : decode cX7_init 104 = .ok (.bipush 116, 2) := by decide +kernel
theorem dX7_init_106 : decode cX7_init 106 = .ok (.castore, 1) := by decide +kernel
theorem dX7_init_107 : decode cX7_init 107 = .ok (.dup, 1) := by decide +kernel
theorem dX7_init_108 : decode cX7_init 108 = .ok (.bipush 8, 2) := by decide +kernel
theorem dX7_init_110 : decode cX7_init 110 = .ok (.bipush 104, 2) := by decide +kernel
theorem dX7_init_112 : decode cX7_init 112 = .ok (.castore, 1) := by decide +kernel
theorem dX7_init_113 : decode cX7_init 113 = .ok (.dup, 1) := by decide +kernel
theorem dX7_init_114 : decode cX7_init 114 = .ok (.bipush 9, 2) := by decide +kernel
theorem dX7_init_116 : decode cX7_init 116 = .ok (.bipush 101, 2) := by decide +kernel
theorem dX7_init_118 : decode cX7_init 118 = .ok (.castore, 1) := by decide +kernel
theorem dX7_init_119 : decode cX7_init 119 = .ok (.dup, 1) := by decide +kernel
theorem dX7_init_120 : decode cX7_init 120 = .ok (.bipush 10, 2) := by decide +kernel
theorem dX7_init_122 : decode cX7_init 122 = .ok (.bipush 105, 2) := by decide +kernel
theorem dX7_init_124 : decode cX7_init 124 = .ok (.castore, 1) := by decide +kernel
theorem dX7_init_125 : decode cX7_init 125 = .ok (.dup, 1) := by decide +kernel
theorem dX7_init_126 : decode cX7_init 126 = .ok (.bipush 11, 2) := by decide +kernel
theorem dX7_init_128 : decode cX7_init 128 = .ok (.bipush 114, 2) := by decide +kernel
theorem dX7_init_130 : decode cX7_init 130 = .ok (.castore, 1) := by decide +kernel
theorem dX7_init_131 : decode cX7_init 131 = .ok (.dup, 1) := by decide +kernel
theorem dX7_init_132 : decode cX7_init 132 = .ok (.bipush 12, 2) := by decide +kernel
theorem dX7_init_134 : decode cX7_init 134 = .ok (.bipush 115, 2) := by decide +kernel
theorem dX7_init_136 : decode cX7_init 136 = .ok (.castore, 1) := by decide +kernel
theorem dX7_init_137 : decode cX7_init 137 = .ok (.dup, 1) := by decide +kernel
theorem dX7_init_138 : decode cX7_init 138 = .ok (.bipush 13, 2) := by decide +kernel
theorem dX7_init_140 : decode cX7_init 140 = .ok (.iconst 0, 1) := by decide +kernel
theorem dX7_init_141 : decode cX7_init 141 = .ok (.castore, 1) := by decide +kernel
theorem dX7_init_142 : decode cX7_init 142 = .ok (.dup, 1) := by decide +kernel
theorem dX7_init_143 : decode cX7_init 143 = .ok (.bipush 14, 2) := by decide +kernel
theorem dX7_init_145 : decode cX7_init 145 = .ok (.bipush 97, 2) := by decide +kernel
theorem dX7_init_147 : decode cX7_init 147 = .ok (.castore, 1) := by decide +kernel
theorem dX7_init_148 : decode cX7_init 148 = .ok (.dup, 1) := by decide +kernel
theorem dX7_init_149 : decode cX7_init 149 = .ok (.bipush 15, 2) := by decide +kernel
theorem dX7_init_151 : decode cX7_init 151 = .ok (.bipush 112, 2) := by decide +kernel
theorem dX7_init_153 : decode cX7_init 153 = .ok (.castore, 1) := by decide +kernel
theorem dX7_init_154 : decode cX7_init 154 = .ok (.dup, 1) := by decide +kernel
theorem dX7_init_155 : decode cX7_init 155 = .ok (.bipush 16, 2) := by decide +kernel
theorem dX7_init_157 : decode cX7_init 157 = .ok (.bipush 97, 2) := by decide +kernel
theorem dX7_init_159 : decode cX7_init 159 = .ok (.castore, 1) := by decide +kernel
theorem dX7_init_160 : decode cX7_init 160 = .ok (.dup, 1) := by decide +kernel
theorem dX7_init_161 : decode cX7_init 161 = .ok (.bipush 17, 2) := by decide +kernel
theorem dX7_init_163 : decode cX7_init 163 = .ok (.bipush 114, 2) := by decide +kernel
theorem dX7_init_165 : decode cX7_init 165 = .ok (.castore, 1) := by decide +kernel
theorem dX7_init_166 : decode cX7_init 166 = .ok (.dup, 1) := by decide +kernel
theorem dX7_init_167 : decode cX7_init 167 = .ok (.bipush 18, 2) := by decide +kernel
theorem dX7_init_169 : decode cX7_init 169 = .ok (.bipush 116, 2) := by decide +kernel
theorem dX7_init_171 : decode cX7_init 171 = .ok (.castore, 1) := by decide +kernel
theorem dX7_init_172 : decode cX7_init 172 = .ok (.dup, 1) := by decide +kernel
theorem dX7_init_173 : decode cX7_init 173 = .ok (.bipush 19, 2) := by decide +kernel
theorem dX7_init_175 : decode cX7_init 175 = .ok (.iconst 0, 1) := by decide +kernel
theorem dX7_init_176 : decode cX7_init 176 = .ok (.castore, 1) := by decide +kernel
theorem dX7_init_177 : decode cX7_init 177 = .ok (.dup, 1) := by decide +kernel
theorem dX7_init_178 : decode cX7_init 178 = .ok (.bipush 20, 2) := by decide +kernel
theorem dX7_init_180 : decode cX7_init 180 = .ok (.iconst 0, 1) := by decide +kernel
theorem dX7_init_181 : decode cX7_init 181 = .ok (.castore, 1) := by decide +kernel
theorem dX7_init_182 : decode cX7_init 182 = .ok (.dup, 1) := by decide +kernel
theorem dX7_init_183 : decode cX7_init 183 = .ok (.bipush 21, 2) := by decide +kernel
theorem dX7_init_185 : decode cX7_init 185 = .ok (.bipush 110, 2) := by decide +kernel
theorem dX7_init_187 : decode cX7_init 187 = .ok (.castore, 1) := by decide +kernel
theorem dX7_init_188 : decode cX7_init 188 = .ok (.dup, 1) := by decide +kernel
theorem dX7_init_189 : decode cX7_init 189 = .ok (.bipush 22, 2) := by decide +kernel
theorem dX7_init_191 : decode cX7_init 191 = .ok (.bipush 117, 2) := by decide +kernel
theorem dX7_init_193 : decode cX7_init 193 = .ok (.castore, 1) := by decide +kernel
theorem dX7_init_194 : decode cX7_init 194 = .ok (.dup, 1) := by decide +kernel
theorem dX7_init_195 : decode cX7_init 195 = .ok (.bipush 23, 2) := by decide +kernel
theorem dX7_init_197 : decode cX7_init 197 = .ok (.bipush 109, 2) := by decide +kernel
theorem dX7_init_199 : decode cX7_init 199 = .ok (.castore, 1) := by decide +kernel
theorem dX7_init_200 : decode cX7_init 200 = .ok (.dup, 1) := by decide +kernel
theorem dX7_init_201 : decode cX7_init 201 = .ok (.bipush 24, 2) := by decide +kernel
theorem dX7_init_203 : decode cX7_init 203 = .ok (.bipush 98, 2) := by decide +kernel
theorem dX7_init_205 : decode cX7_init 205 = .ok (.castore, 1) := by decide +kernel
theorem dX7_init_206 : decode cX7_init 206 = .ok (.dup, 1) := by decide +kernel
theorem dX7_init_207 : decode cX7_init 207 = .ok (.bipush 25, 2) := by decide +kernel
theorem dX7_init_209 : decode cX7_init 209 = .ok (.bipush 101, 2) := by decide +kernel
theorem dX7_init_211 : decode cX7_init 211 = .ok (.castore, 1) := by decide +kernel
theorem dX7_init_212 : decode cX7_init 212 = .ok (.dup, 1) := by decide +kernel
theorem dX7_init_213 : decode cX7_init 213 = .ok (.bipush 26, 2) := by decide +kernel
theorem dX7_init_215 : decode cX7_init 215 = .ok (.bipush 114, 2) := by decide +kernel
theorem dX7_init_217 : decode cX7_init 217 = .ok (.castore, 1) := by decide +kernel
theorem dX7_init_218 : decode cX7_init 218 = .ok (.dup, 1) := by decide +kernel
theorem dX7_init_219 : decode cX7_init 219 = .ok (.bipush 27, 2) := by decide +kernel
theorem dX7_init_221 : decode cX7_init 221 = .ok (.iconst 0, 1) := by decide +kernel
theorem dX7_init_222 : decode cX7_init 222 = .ok (.castore, 1) := by decide +kernel
theorem dX7_init_223 : decode cX7_init 223 = .ok (.dup, 1) := by decide +kernel
theorem dX7_init_224 : decode cX7_init 224 = .ok (.bipush 28, 2) := by decide +kernel
theorem dX7_init_226 : decode cX7_init 226 = .ok (.bipush 116, 2) := by decide +kernel
theorem dX7_init_228 : decode cX7_init 228 = .ok (.castore, 1) := by decide +kernel
theorem dX7_init_229 : decode cX7_init 229 = .ok (.dup, 1) := by decide +kernel
theorem dX7_init_230 : decode cX7_init 230 = .ok (.bipush 29, 2) := by decide +kernel
theorem dX7_init_232 : decode cX7_init 232 = .ok (.bipush 105, 2) := by decide +kernel
theorem dX7_init_234 : decode cX7_init 234 = .ok (.castore, 1) := by decide +kernel
theorem dX7_init_235 : decode cX7_init 235 = .ok (.dup, 1) := by decide +kernel
theorem dX7_init_236 : decode cX7_init 236 = .ok (.bipush 30, 2) := by decide +kernel
theorem dX7_init_238 : decode cX7_init 238 = .ok (.bipush 100, 2) := by decide +kernel
theorem dX7_init_240 : decode cX7_init 240 = .ok (.castore, 1) := by decide +kernel
theorem dX7_init_241 : decode cX7_init 241 = .ok (.dup, 1) := by decide +kernel
theorem dX7_init_242 : decode cX7_init 242 = .ok (.bipush 31, 2) := by decide +kernel
theorem dX7_init_244 : decode cX7_init 244 = .ok (.bipush 101, 2) := by decide +kernel
theorem dX7_init_246 : decode cX7_init 246 = .ok (.castore, 1) := by decide +kernel
theorem dX7_init_247 : decode cX7_init 247 = .ok (.dup, 1) := by decide +kernel
theorem dX7_init_248 : decode cX7_init 248 = .ok (.bipush 32, 2) := by decide +kernel
theorem dX7_init_250 : decode cX7_init 250 = .ok (.iconst 0, 1) := by decide +kernel
theorem dX7_init_251 : decode cX7_init 251 = .ok (.castore, 1) := by decide +kernel
theorem dX7_init_252 : decode cX7_init 252 = .ok (.dup, 1) := by decide +kernel
theorem dX7_init_253 : decode cX7_init 253 = .ok (.bipush 33, 2) := by decide +kernel
theorem dX7_init_255 : decode cX7_init 255 = .ok (.iconst 0, 1) := by decide +kernel
theorem dX7_init_256 : decode cX7_init 256 = .ok (.castore, 1) := by decide +kernel
theorem dX7_init_257 : decode cX7_init 257 = .ok (.dup, 1) := by decide +kernel
theorem dX7_init_258 : decode cX7_init 258 = .ok (.bipush 34, 2) := by decide +kernel
theorem dX7_init_260 : decode cX7_init 260 = .ok (.iconst 0, 1) := by decide +kernel
theorem dX7_init_261 : decode cX7_init 261 = .ok (.castore, 1) := by decide +kernel
theorem dX7_init_262 : decode cX7_init 262 = .ok (.dup, 1) := by decide +kernel
theorem dX7_init_263 : decode cX7_init 263 = .ok (.bipush 35, 2) := by decide +kernel
theorem dX7_init_265 : decode cX7_init 265 = .ok (.bipush 112, 2) := by decide +kernel
theorem dX7_init_267 : decode cX7_init 267 = .ok (.castore, 1) := by decide +kernel
theorem dX7_init_268 : decode cX7_init 268 = .ok (.dup, 1) := by decide +kernel
theorem dX7_init_269 : decode cX7_init 269 = .ok (.bipush 36, 2) := by decide +kernel
theorem dX7_init_271 : decode cX7_init 271 = .ok (.bipush 108, 2) := by decide +kernel
theorem dX7_init_273 : decode cX7_init 273 = .ok (.castore, 1) := by decide +kernel
theorem dX7_init_274 : decode cX7_init 274 = .ok (.dup, 1) := by decide +kernel
theorem dX7_init_275 : decode cX7_init 275 = .ok (.bipush 37, 2) := by decide +kernel
theorem dX7_init_277 : decode cX7_init 277 = .ok (.bipush 97, 2) := by decide +kernel
theorem dX7_init_279 : decode cX7_init 279 = .ok (.castore, 1) := by decide +kernel
theorem dX7_init_280 : decode cX7_init 280 = .ok (.dup, 1) := by decide +kernel
theorem dX7_init_281 : decode cX7_init 281 = .ok (.bipush 38, 2) := by decide +kernel
theorem dX7_init_283 : decode cX7_init 283 = .ok (.bipush 99, 2) := by decide +kernel
theorem dX7_init_285 : decode cX7_init 285 = .ok (.castore, 1) := by decide +kernel
theorem dX7_init_286 : decode cX7_init 286 = .ok (.dup, 1) := by decide +kernel
theorem dX7_init_287 : decode cX7_init 287 = .ok (.bipush 39, 2) := by decide +kernel
theorem dX7_init_289 : decode cX7_init 289 = .ok (.bipush 101, 2) := by decide +kernel
theorem dX7_init_291 : decode cX7_init 291 = .ok (.castore, 1) := by decide +kernel
theorem dX7_init_292 : decode cX7_init 292 = .ok (.dup, 1) := by decide +kernel
theorem dX7_init_293 : decode cX7_init 293 = .ok (.bipush 40, 2) := by decide +kernel
theorem dX7_init_295 : decode cX7_init 295 = .ok (.iconst 0, 1) := by decide +kernel
theorem dX7_init_296 : decode cX7_init 296 = .ok (.castore, 1) := by decide +kernel
theorem dX7_init_297 : decode cX7_init 297 = .ok (.dup, 1) := by decide +kernel
theorem dX7_init_298 : decode cX7_init 298 = .ok (.bipush 41, 2) := by decide +kernel
theorem dX7_init_300 : decode cX7_init 300 = .ok (.iconst 0, 1) := by decide +kernel
theorem dX7_init_301 : decode cX7_init 301 = .ok (.castore, 1) := by decide +kernel
theorem dX7_init_302 : decode cX7_init 302 = .ok (.dup, 1) := by decide +kernel
theorem dX7_init_303 : decode cX7_init 303 = .ok (.bipush 42, 2) := by decide +kernel
theorem dX7_init_305 : decode cX7_init 305 = .ok (.bipush 119, 2) := by decide +kernel
theorem dX7_init_307 : decode cX7_init 307 = .ok (.castore, 1) := by decide +kernel
theorem dX7_init_308 : decode cX7_init 308 = .ok (.dup, 1) := by decide +kernel
theorem dX7_init_309 : decode cX7_init 309 = .ok (.bipush 43, 2) := by decide +kernel
theorem dX7_init_311 : decode cX7_init 311 = .ok (.bipush 101, 2) := by decide +kernel
theorem dX7_init_313 : decode cX7_init 313 = .ok (.castore, 1) := by decide +kernel
theorem dX7_init_314 : decode cX7_init 314 = .ok (.dup, 1) := by decide +kernel
theorem dX7_init_315 : decode cX7_init 315 = .ok (.bipush 44, 2) := by decide +kernel
theorem dX7_init_317 : decode cX7_init 317 = .ok (.bipush 97, 2) := by decide +kernel
theorem dX7_init_319 : decode cX7_init 319 = .ok (.castore, 1) := by decide +kernel
theorem dX7_init_320 : decode cX7_init 320 = .ok (.dup, 1) := by decide +kernel
theorem dX7_init_321 : decode cX7_init 321 = .ok (.bipush 45, 2) := by decide +kernel
theorem dX7_init_323 : decode cX7_init 323 = .ok (.bipush 114, 2) := by decide +kernel
theorem dX7_init_325 : decode cX7_init 325 = .ok (.castore, 1) := by decide +kernel
theorem dX7_init_326 : decode cX7_init 326 = .ok (.dup, 1) := by decide +kernel
theorem dX7_init_327 : decode cX7_init 327 = .ok (.bipush 46, 2) := by decide +kernel
theorem dX7_init_329 : decode cX7_init 329 = .ok (.bipush 115, 2) := by decide +kernel
theorem dX7_init_331 : decode cX7_init 331 = .ok (.castore, 1) := by decide +kernel
theorem dX7_init_332 : decode cX7_init 332 = .ok (.dup, 1) := by decide +kernel
theorem dX7_init_333 : decode cX7_init 333 = .ok (.bipush 47, 2) := by decide +kernel
theorem dX7_init_335 : decode cX7_init 335 = .ok (.iconst 0, 1) := by decide +kernel
theorem dX7_init_336 : decode cX7_init 336 = .ok (.castore, 1) := by decide +kernel
theorem dX7_init_337 : decode cX7_init 337 = .ok (.dup, 1) := by decide +kernel
theorem dX7_init_338 : decode cX7_init 338 = .ok (.bipush 48, 2) := by decide +kernel
theorem dX7_init_340 : decode cX7_init 340 = .ok (.iconst 0, 1) := by decide +kernel
theorem dX7_init_341 : decode cX7_init 341 = .ok (.castore, 1) := by decide +kernel
theorem dX7_init_342 : decode cX7_init 342 = .ok (.dup, 1) := by decide +kernel
theorem dX7_init_343 : decode cX7_init 343 = .ok (.bipush 49, 2) := by decide +kernel
theorem dX7_init_345 : decode cX7_init 345 = .ok (.bipush 99, 2) := by decide +kernel
theorem dX7_init_347 : decode cX7_init 347 = .ok (.castore, 1) := by decide +kernel
theorem dX7_init_348 : decode cX7_init 348 = .ok (.dup, 1) := by decide +kernel
theorem dX7_init_349 : decode cX7_init 349 = .ok (.bipush 50, 2) := by decide +kernel
theorem dX7_init_351 : decode cX7_init 351 = .ok (.bipush 97, 2) := by decide +kernel
theorem dX7_init_353 : decode cX7_init 353 = .ok (.castore, 1) := by decide +kernel
theorem dX7_init_354 : decode cX7_init 354 = .ok (.dup, 1) := by decide +kernel
theorem dX7_init_355 : decode cX7_init 355 = .ok (.bipush 51, 2) := by decide +kernel
theorem dX7_init_357 : decode cX7_init 357 = .ok (.bipush 114, 2) := by decide +kernel
theorem dX7_init_359 : decode cX7_init 359 = .ok (.castore, 1) := by decide +kernel
theorem dX7_init_360 : decode cX7_init 360 = .ok (.dup, 1) := by decide +kernel
theorem dX7_init_361 : decode cX7_init 361 = .ok (.bipush 52, 2) := by decide +kernel
theorem dX7_init_363 : decode cX7_init 363 = .ok (.bipush 114, 2) := by decide +kernel
theorem dX7_init_365 : decode cX7_init 365 = .ok (.castore, 1) := by decide +kernel
theorem dX7_init_366 : decode cX7_init 366 = .ok (.dup, 1) := by decide +kernel
theorem dX7_init_367 : decode cX7_init 367 = .ok (.bipush 53, 2) := by decide +kernel
theorem dX7_init_369 : decode cX7_init 369 = .ok (.bipush 105, 2) := by decide +kernel
theorem dX7_init_371 : decode cX7_init 371 = .ok (.castore, 1) := by decide +kernel
theorem dX7_init_372 : decode cX7_init 372 = .ok (.dup, 1) := by decide +kernel
theorem dX7_init_373 : decode cX7_init 373 = .ok (.bipush 54, 2) := by decide +kernel
theorem dX7_init_375 : decode cX7_init 375 = .ok (.bipush 101, 2) := by decide +kernel
theorem dX7_init_377 : decode cX7_init 377 = .ok (.castore, 1) := by decide +kernel
theorem dX7_init_378 : decode cX7_init 378 = .ok (.dup, 1) := by decide +kernel
theorem dX7_init_379 : decode cX7_init 379 = .ok (.bipush 55, 2) := by decide +kernel
theorem dX7_init_381 : decode cX7_init 381 = .ok (.bipush 115, 2) := by decide +kernel
theorem dX7_init_383 : decode cX7_init 383 = .ok (.castore, 1) := by decide +kernel
theorem dX7_init_384 : decode cX7_init 384 = .ok (.dup, 1) := by decide +kernel
theorem dX7_init_385 : decode cX7_init 385 = .ok (.bipush 56, 2) := by decide +kernel
theorem dX7_init_387 : decode cX7_init 387 = .ok (.bipush 99, 2) := by decide +kernel
theorem dX7_init_389 : decode cX7_init 389 = .ok (.castore, 1) := by decide +kernel
theorem dX7_init_390 : decode cX7_init 390 = .ok (.dup, 1) := by decide +kernel
theorem dX7_init_391 : decode cX7_init 391 = .ok (.bipush 57, 2) := by decide +kernel
theorem dX7_init_393 : decode cX7_init 393 = .ok (.bipush 108, 2) := by decide +kernel
theorem dX7_init_395 : decode cX7_init 395 = .ok (.castore, 1) := by decide +kernel
theorem dX7_init_396 : decode cX7_init 396 = .ok (.dup, 1) := by decide +kernel
theorem dX7_init_397 : decode cX7_init 397 = .ok (.bipush 58, 2) := by decide +kernel
theorem dX7_init_399 : decode cX7_init 399 = .ok (.bipush 97, 2) := by decide +kernel
theorem dX7_init_401 : decode cX7_init 401 = .ok (.castore, 1) := by decide +kernel
theorem dX7_init_402 : decode cX7_init 402 = .ok (.dup, 1) := by decide +kernel
theorem dX7_init_403 : decode cX7_init 403 = .ok (.bipush 59, 2) := by decide +kernel
theorem dX7_init_405 : decode cX7_init 405 = .ok (.bipush 115, 2) := by decide +kernel
theorem dX7_init_407 : decode cX7_init 407 = .ok (.castore, 1) := by decide +kernel
theorem dX7_init_408 : decode cX7_init 408 = .ok (.dup, 1) := by decide +kernel
theorem dX7_init_409 : decode cX7_init 409 = .ok (.bipush 60, 2) := by decide +kernel
theorem dX7_init_411 : decode cX7_init 411 = .ok (.bipush 104, 2) := by decide +kernel
theorem dX7_init_413 : decode cX7_init 413 = .ok (.castore, 1) := by decide +kernel
theorem dX7_init_414 : decode cX7_init 414 = .ok (.dup, 1) := by decide +kernel
theorem dX7_init_415 : decode cX7_init 415 = .ok (.bipush 61, 2) := by decide +kernel
theorem dX7_init_417 : decode cX7_init 417 = .ok (.bipush 101, 2) := by decide +kernel
theorem dX7_init_419 : decode cX7_init 419 = .ok (.castore, 1) := by decide +kernel
theorem dX7_init_420 : decode cX7_init 420 = .ok (.dup, 1) := by decide +kernel
theorem dX7_init_421 : decode cX7_init 421 = .ok (.bipush 62, 2) := by decide +kernel
theorem dX7_init_423 : decode cX7_init 423 = .ok (.bipush 115, 2) := by decide +kernel
theorem dX7_init_425 : decode cX7_init 425 = .ok (.castore, 1) := by decide +kernel
theorem dX7_init_426 : decode cX7_init 426 = .ok (.dup, 1) := by decide +kernel
theorem dX7_init_427 : decode cX7_init 427 = .ok (.bipush 63, 2) := by decide +kernel
theorem dX7_init_429 : decode cX7_init 429 = .ok (.bipush 111, 2) := by decide +kernel
theorem dX7_init_431 : decode cX7_init 431 = .ok (.castore, 1) := by decide +kernel
theorem dX7_init_432 : decode cX7_init 432 = .ok (.dup, 1) := by decide +kernel
theorem dX7_init_433 : decode cX7_init 433 = .ok (.bipush 64, 2) := by decide +kernel
theorem dX7_init_435 : decode cX7_init 435 = .ok (.bipush 114, 2) := by decide +kernel
theorem dX7_init_437 : decode cX7_init 437 = .ok (.castore, 1) := by decide +kernel
theorem dX7_init_438 : decode cX7_init 438 = .ok (.dup, 1) := by decide +kernel
theorem dX7_init_439 : decode cX7_init 439 = .ok (.bipush 65, 2) := by decide +kernel
theorem dX7_init_441 : decode cX7_init 441 = .ok (.iconst 0, 1) := by decide +kernel
theorem dX7_init_442 : decode cX7_init 442 = .ok (.castore, 1) := by decide +kernel
theorem dX7_init_443 : decode cX7_init 443 = .ok (.dup, 1) := by decide +kernel
theorem dX7_init_444 : decode cX7_init 444 = .ok (.bipush 66, 2) := by decide +kernel
theorem dX7_init_446 : decode cX7_init 446 = .ok (.iconst 0, 1) := by decide +kernel
theorem dX7_init_447 : decode cX7_init 447 = .ok (.castore, 1) := by decide +kernel
theorem dX7_init_448 : decode cX7_init 448 = .ok (.dup, 1) := by decide +kernel
theorem dX7_init_449 : decode cX7_init 449 = .ok (.bipush 67, 2) := by decide +kernel
theorem dX7_init_451 : decode cX7_init 451 = .ok (.iconst 0, 1) := by decide +kernel
theorem dX7_init_452 : decode cX7_init 452 = .ok (.castore, 1) := by decide +kernel
theorem dX7_init_453 : decode cX7_init 453 = .ok (.dup, 1) := by decide +kernel
theorem dX7_init_454 : decode cX7_init 454 = .ok (.bipush 68, 2) := by decide +kernel
theorem dX7_init_456 : decode cX7_init 456 = .ok (.iconst 0, 1) := by decide +kernel
theorem dX7_init_457 : decode cX7_init 457 = .ok (.castore, 1) := by decide +kernel
theorem dX7_init_458 : decode cX7_init 458 = .ok (.dup, 1) := by decide +kernel
theorem dX7_init_459 : decode cX7_init 459 = .ok (.bipush 69, 2) := by decide +kernel
theorem dX7_init_461 : decode cX7_init 461 = .ok (.iconst 0, 1) := by decide +kernel
theorem dX7_init_462 : decode cX7_init 462 = .ok (.castore, 1) := by decide +kernel
theorem dX7_init_463 : decode cX7_init 463 = .ok (.dup, 1) := by decide +kernel
theorem dX7_init_464 : decode cX7_init 464 = .ok (.bipush 70, 2) := by decide +kernel
theorem dX7_init_466 : decode cX7_init 466 = .ok (.bipush 97, 2) := by decide +kernel
theorem dX7_init_468 : decode cX7_init 468 = .ok (.castore, 1) := by decide +kernel
theorem dX7_init_469 : decode cX7_init 469 = .ok (.dup, 1) := by decide +kernel
theorem dX7_init_470 : decode cX7_init 470 = .ok (.bipush 71, 2) := by decide +kernel
theorem dX7_init_472 : decode cX7_init 472 = .ok (.bipush 110, 2) := by decide +kernel
theorem dX7_init_474 : decode cX7_init 474 = .ok (.castore, 1) := by decide +kernel
theorem dX7_init_475 : decode cX7_init 475 = .ok (.dup, 1) := by decide +kernel
theorem dX7_init_476 : decode cX7_init 476 = .ok (.bipush 72, 2) := by decide +kernel
theorem dX7_init_478 : decode cX7_init 478 = .ok (.bipush 100, 2) := by decide +kernel
theorem dX7_init_480 : decode cX7_init 480 = .ok (.castore, 1) := by decide +kernel
theorem dX7_init_481 : decode cX7_init 481 = .ok (.dup, 1) := by decide +kernel
theorem dX7_init_482 : decode cX7_init 482 = .ok (.bipush 73, 2) := by decide +kernel
theorem dX7_init_484 : decode cX7_init 484 = .ok (.iconst 0, 1) := by decide +kernel
theorem dX7_init_485 : decode cX7_init 485 = .ok (.castore, 1) := by decide +kernel
theorem dX7_init_486 : decode cX7_init 486 = .ok (.dup, 1) := by decide +kernel
theorem dX7_init_487 : decode cX7_init 487 = .ok (.bipush 74, 2) := by decide +kernel
theorem dX7_init_489 : decode cX7_init 489 = .ok (.iconst 0, 1) := by decide +kernel
theorem dX7_init_490 : decode cX7_init 490 = .ok (.castore, 1) := by decide +kernel
theorem dX7_init_491 : decode cX7_init 491 = .ok (.dup, 1) := by decide +kernel
theorem dX7_init_492 : decode cX7_init 492 = .ok (.bipush 75, 2) := by decide +kernel
theorem dX7_init_494 : decode cX7_init 494 = .ok (.iconst 0, 1) := by decide +kernel
theorem dX7_init_495 : decode cX7_init 495 = .ok (.castore, 1) := by decide +kernel
theorem dX7_init_496 : decode cX7_init 496 = .ok (.dup, 1) := by decide +kernel
theorem dX7_init_497 : decode cX7_init 497 = .ok (.bipush 76, 2) := by decide +kernel
theorem dX7_init_499 : decode cX7_init 499 = .ok (.iconst 0, 1) := by decide +kernel
theorem dX7_init_500 : decode cX7_init 500 = .ok (.castore, 1) := by decide +kernel
theorem dX7_init_501 : decode cX7_init 501 = .ok (.dup, 1) := by decide +kernel
theorem dX7_init_502 : decode cX7_init 502 = .ok (.bipush 77, 2) := by decide +kernel
theorem dX7_init_504 : decode cX7_init 504 = .ok (.bipush 110, 2) := by decide +kernel
theorem dX7_init_506 : decode cX7_init 506 = .ok (.castore, 1) := by decide +kernel
theorem dX7_init_507 : decode cX7_init 507 = .ok (.dup, 1) := by decide +kernel
theorem dX7_init_508 : decode cX7_init 508 = .ok (.bipush 78, 2) := by decide +kernel
theorem dX7_init_510 : decode cX7_init 510 = .ok (.bipush 111, 2) := by decide +kernel
theorem dX7_init_512 : decode cX7_init 512 = .ok (.castore, 1) := by decide +kernel
theorem dX7_init_513 : decode cX7_init 513 = .ok (.dup, 1) := by decide +kernel
theorem dX7_init_514 : decode cX7_init 514 = .ok (.bipush 79, 2) := by decide +kernel
theorem dX7_init_516 : decode cX7_init 516 = .ok (.bipush 116, 2) := by decide +kernel
theorem dX7_init_518 : decode cX7_init 518 = .ok (.castore, 1) := by decide +kernel
theorem dX7_init_519 : decode cX7_init 519 = .ok (.dup, 1) := by decide +kernel
theorem dX7_init_520 : decode cX7_init 520 = .ok (.bipush 80, 2) := by decide +kernel
theorem dX7_init_522 : decode cX7_init 522 = .ok (.iconst 0, 1) := by decide +kernel
theorem dX7_init_523 : decode cX7_init 523 = .ok (.castore, 1) := by decide +kernel
theorem dX7_init_524 : decode cX7_init 524 = .ok (.dup, 1) := by decide +kernel
theorem dX7_init_525 : decode cX7_init 525 = .ok (.bipush 81, 2) := by decide +kernel
theorem dX7_init_527 : decode cX7_init 527 = .ok (.iconst 0, 1) := by decide +kernel
theorem dX7_init_528 : decode cX7_init 528 = .ok (.castore, 1) := by decide +kernel
theorem dX7_init_529 : decode cX7_init 529 = .ok (.dup, 1) := by decide +kernel
theorem dX7_init_530 : decode cX7_init 530 = .ok (.bipush 82, 2) := by decide +kernel
theorem dX7_init_532 : decode cX7_init 532 = .ok (.iconst 0, 1) := by decide +kernel
theorem dX7_init_533 : decode cX7_init 533 = .ok (.castore, 1) := by decide +kernel
theorem dX7_init_534 : decode cX7_init 534 = .ok (.dup, 1) := by decide +kernel
theorem dX7_init_535 : decode cX7_init 535 = .ok (.bipush 83, 2) := by decide +kernel
theorem dX7_init_537 : decode cX7_init 537 = .ok (.iconst 0, 1) := by decide +kernel
theorem dX7_init_538 : decode cX7_init 538 = .ok (.castore, 1) := by decide +kernel
theorem dX7_init_539 : decode cX7_init 539 = .ok (.putfield 36, 3) := by decide +kernel
theorem dX7_init_542 : decode cX7_init 542 = .ok (.aload_n 0, 1) := by decide +kernel
theorem dX7_init_543 : decode cX7_init 543 = .ok (.sipush 160, 3) := by decide +kernel
theorem dX7_init_546 : decode cX7_init 546 = .ok (.newarray .int, 2) := by decide +kernel
theorem dX7_init_548 : decode cX7_init 548 = .ok (.putfield 40, 3) := by decide +kernel
theorem dX7_init_551 : decode cX7_init 551 = .ok (.aload_n 0, 1) := by decide +kernel
theorem dX7_init_552 : decode cX7_init 552 = .ok (.sipush 160, 3) := by decide +kernel
theorem dX7_init_555 : decode cX7_init 555 = .ok (.newarray .int, 2) := by decide +kernel
theorem dX7_init_557 : decode cX7_init 557 = .ok (.putfield 43, 3) := by decide +kernel
theorem dX7_init_560 : decode cX7_init 560 = .ok (.aload_n 0, 1) := by decide +kernel
theorem dX7_init_561 : decode cX7_init 561 = .ok (.bipush 8, 2) := by decide +kernel
theorem dX7_init_563 : decode cX7_init 563 = .ok (.newarray .int, 2) := by decide +kernel
theorem dX7_init_565 : decode cX7_init 565 = .ok (.putfield 46, 3) := by decide +kernel
theorem dX7_init_568 : decode cX7_init 568 = .ok (.aload_n 0, 1) := by decide +kernel
theorem dX7_init_569 : decode cX7_init 569 = .ok (.bipush 8, 2) := by decide +kernel
theorem dX7_init_571 : decode cX7_init 571 = .ok (.newarray .int, 2) := by decide +kernel
theorem dX7_init_573 : decode cX7_init 573 = .ok (.putfield 49, 3) := by decide +kernel
theorem dX7_init_576 : decode cX7_init 576 = .ok (.aload_n 0, 1) := by decide +kernel
theorem dX7_init_577 : decode cX7_init 577 = .ok (.bipush 8, 2) := by decide +kernel
theorem dX7_init_579 : decode cX7_init 579 = .ok (.newarray .int, 2) := by decide +kernel
theorem dX7_init_581 : decode cX7_init 581 = .ok (.putfield 52, 3) := by decide +kernel
theorem dX7_init_584 : decode cX7_init 584 = .ok (.aload_n 0, 1) := by decide +kernel
theorem dX7_init_585 : decode cX7_init 585 = .ok (.bipush 9, 2) := by decide +kernel
theorem dX7_init_587 : decode cX7_init 587 = .ok (.newarray .int, 2) := by decide +kernel
theorem dX7_init_589 : decode cX7_init 589 = .ok (.putfield 55, 3) := by decide +kernel
theorem dX7_init_592 : decode cX7_init 592 = .ok (.aload_n 0, 1) := by decide +kernel
theorem dX7_init_593 : decode cX7_init 593 = .ok (.iconst 4, 1) := by decide +kernel
theorem dX7_init_594 : decode cX7_init 594 = .ok (.newarray .int, 2) := by decide +kernel
theorem dX7_init_596 : decode cX7_init 596 = .ok (.dup, 1) := by decide +kernel
theorem dX7_init_597 : decode cX7_init 597 = .ok (.iconst 0, 1) := by decide +kernel
theorem dX7_init_598 : decode cX7_init 598 = .ok (.iconst (-1), 1) := by decide +kernel
theorem dX7_init_599 : decode cX7_init 599 = .ok (.iastore, 1) := by decide +kernel
theorem dX7_init_600 : decode cX7_init 600 = .ok (.dup, 1) := by decide +kernel
theorem dX7_init_601 : decode cX7_init 601 = .ok (.iconst 1, 1) := by decide +kernel
theorem dX7_init_602 : decode cX7_init 602 = .ok (.iconst (-1), 1) := by decide +kernel
theorem dX7_init_603 : decode cX7_init 603 = .ok (.iastore, 1) := by decide +kernel
theorem dX7_init_604 : decode cX7_init 604 = .ok (.dup, 1) := by decide +kernel
theorem dX7_init_605 : decode cX7_init 605 = .ok (.iconst 2, 1) := by decide +kernel
theorem dX7_init_606 : decode cX7_init 606 = .ok (.iconst (-1), 1) := by decide +kernel
theorem dX7_init_607 : decode cX7_init 607 = .ok (.iastore, 1) := by decide +kernel
theorem dX7_init_608 : decode cX7_init 608 = .ok (.dup, 1) := by decide +kernel
theorem dX7_init_609 : decode cX7_init 609 = .ok (.iconst 3, 1) := by decide +kernel
theorem dX7_init_610 : decode cX7_init 610 = .ok (.iconst (-1), 1) := by decide +kernel
theorem dX7_init_611 : decode cX7_init 611 = .ok (.iastore, 1) := by decide +kernel
theorem dX7_init_612 : decode cX7_init 612 = .ok (.putfield 58, 3) := by decide +kernel
theorem dX7_init_615 : decode cX7_init 615 = .ok (.aload_n 0, 1) := by decide +kernel
theorem dX7_init_616 : decode cX7_init 616 = .ok (.iconst 4, 1) := by decide +kernel
theorem dX7_init_617 : decode cX7_init 617 = .ok (.newarray .int, 2) := by decide +kernel
theorem dX7_init_619 : decode cX7_init 619 = .ok (.putfield 61, 3) := by decide +kernel
theorem dX7_init_622 : decode cX7_init 622 = .ok (.aload_n 0, 1) := by decide +kernel
theorem dX7_init_623 : decode cX7_init 623 = .ok (.sipush 160, 3) := by decide +kernel
theorem dX7_init_626 : decode cX7_init 626 = .ok (.newarray .int, 2) := by decide +kernel
theorem dX7_init_628 : decode cX7_init 628 = .ok (.putfield 64, 3) := by decide +kernel
theorem dX7_init_631 : decode cX7_init 631 = .ok (.aload_n 0, 1) := by decide +kernel
theorem dX7_init_632 : decode cX7_init 632 = .ok (.bipush 40, 2) := by decide +kernel
theorem dX7_init_634 : decode cX7_init 634 = .ok (.newarray .int, 2) := by decide +kernel
theorem dX7_init_636 : decode cX7_init 636 = .ok (.putfield 67, 3) := by decide +kernel
theorem dX7_init_639 : decode cX7_init 639 = .ok (.aload_n 0, 1) := by decide +kernel
theorem dX7_init_640 : decode cX7_init 640 = .ok (.bipush 6, 2) := by decide +kernel
theorem dX7_init_642 : decode cX7_init 642 = .ok (.newarray .int, 2) := by decide +kernel
theorem dX7_init_644 : decode cX7_init 644 = .ok (.dup, 1) := by decide +kernel
theorem dX7_init_645 : decode cX7_init 645 = .ok (.iconst 0, 1) := by decide +kernel
theorem dX7_init_646 : decode cX7_init 646 = .ok (.iconst (-1), 1) := by decide +kernel
theorem dX7_init_647 : decode cX7_init 647 = .ok (.iastore, 1) := by decide +kernel
theorem dX7_init_648 : decode cX7_init 648 = .ok (.dup, 1) := by decide +kernel
theorem dX7_init_649 : decode cX7_init 649 = .ok (.iconst 1, 1) := by decide +kernel
theorem dX7_init_650 : decode cX7_init 650 = .ok (.iconst 0, 1) := by decide +kernel
theorem dX7_init_651 : decode cX7_init 651 = .ok (.iastore, 1) := by decide +kernel
theorem dX7_init_652 : decode cX7_init 652 = .ok (.dup, 1) := by decide +kernel
theorem dX7_init_653 : decode cX7_init 653 = .ok (.iconst 2, 1) := by decide +kernel
theorem dX7_init_654 : decode cX7_init 654 = .ok (.iconst 0, 1) := by decide +kernel
theorem dX7_init_655 : decode cX7_init 655 = .ok (.iastore, 1) := by decide +kernel
theorem dX7_init_656 : decode cX7_init 656 = .ok (.dup, 1) := by decide +kernel
theorem dX7_init_657 : decode cX7_init 657 = .ok (.iconst 3, 1) := by decide +kernel
theorem dX7_init_658 : decode cX7_init 658 = .ok (.iconst 1, 1) := by decide +kernel
theorem dX7_init_659 : decode cX7_init 659 = .ok (.iastore, 1) := by decide +kernel
theorem dX7_init_660 : decode cX7_init 660 = .ok (.dup, 1) := by decide +kernel
theorem dX7_init_661 : decode cX7_init 661 = .ok (.iconst 4, 1) := by decide +kernel
theorem dX7_init_662 : decode cX7_init 662 = .ok (.iconst 2, 1) := by decide +kernel
theorem dX7_init_663 : decode cX7_init 663 = .ok (.iastore, 1) := by decide +kernel
theorem dX7_init_664 : decode cX7_init 664 = .ok (.dup, 1) := by decide +kernel
theorem dX7_init_665 : decode cX7_init 665 = .ok (.iconst 5, 1) := by decide +kernel
theorem dX7_init_666 : decode cX7_init 666 = .ok (.iconst 0, 1) := by decide +kernel
theorem dX7_init_667 : decode cX7_init 667 = .ok (.iastore, 1) := by decide +kernel
theorem dX7_init_668 : decode cX7_init 668 = .ok (.putfield 70, 3) := by decide +kernel
theorem dX7_init_671 : decode cX7_init 671 = .ok (.aload_n 0, 1) := by decide +kernel
theorem dX7_init_672 : decode cX7_init 672 = .ok (.bipush 100, 2) := by decide +kernel
theorem dX7_init_674 : decode cX7_init 674 = .ok (.newarray .boolean, 2) := by decide +kernel
theorem dX7_init_676 : decode cX7_init 676 = .ok (.putfield 73, 3) := by decide +kernel
theorem dX7_init_679 : decode cX7_init 679 = .ok (.return_, 1) := by decide +kernel
theorem dX7_isIn_0 : decode cX7_isIn 0 = .ok (.iload_n 0, 1) := by decide +kernel
theorem dX7_isIn_1 : decode cX7_isIn 1 = .ok (.iload_n 1, 1) := by decide +kernel
theorem dX7_isIn_2 : decode cX7_isIn 2 = .ok (.if_icmp .lt 12, 3) := by decide +kernel
theorem dX7_isIn_5 : decode cX7_isIn 5 = .ok (.iload_n 0, 1) := by decide +kernel
theorem dX7_isIn_6 : decode cX7_isIn 6 = .ok (.iload_n 2, 1) := by decide +kernel
theorem dX7_isIn_7 : decode cX7_isIn 7 = .ok (.if_icmp .gt 7, 3) := by decide +kernel
theorem dX7_isIn_10 : decode cX7_isIn 10 = .ok (.iconst 1, 1) := by decide +kernel
theorem dX7_isIn_11 : decode cX7_isIn 11 = .ok (.goto 4, 3) := by decide +kernel
theorem dX7_isIn_14 : decode cX7_isIn 14 = .ok (.iconst 0, 1) := by decide +kernel
theorem dX7_isIn_15 : decode cX7_isIn 15 = .ok (.ireturn, 1) := by decide +kernel
theorem dX7_bound_0 : decode cX7_bound 0 = .ok (.iload_n 1, 1) := by decide +kernel
theorem dX7_bound_1 : decode cX7_bound 1 = .ok (.iload_n 2, 1) := by decide +kernel
theorem dX7_bound_2 : decode cX7_bound 2 = .ok (.iload_n 0, 1) := by decide +kernel
theorem dX7_bound_3 : decode cX7_bound 3 = .ok (.invokestatic 77, 3) := by decide +kernel
theorem dX7_bound_6 : decode cX7_bound 6 = .ok (.invokestatic 83, 3) := by decide +kernel
theorem dX7_bound_9 : decode cX7_bound 9 = .ok (.ireturn, 1) := by decide +kernel
