theorem dX7_fill_34 : decode cX7_fill 34 = .ok (.aload_n 0, 1) := by decide +kernel
theorem dX7_fill_35 : decode cX7_fill 35 = .ok (.iload_n 1, 1) := by decide +kernel
theorem dX7_fill_36 : decode cX7_fill 36 = .ok (.iconst 1, 1) := by decide +kernel
theorem dX7_fill_37 : decode cX7_fill 37 = .ok (.iadd, 1) := by decide +kernel
theorem dX7_fill_38 : decode cX7_fill 38 = .ok (.iload_n 2, 1) := by decide +kernel
theorem dX7_fill_39 : decode cX7_fill 39 = .ok (.iload_n 3, 1) := by decide +kernel
theorem dX7_fill_40 : decode cX7_fill 40 = .ok (.iload 4, 2) := by decide +kernel
theorem dX7_fill_42 : decode cX7_fill 42 = .ok (.invokevirtual 257, 3) := by decide +kernel
theorem dX7_fill_45 : decode cX7_fill 45 = .ok (.return_, 1) := by decide +kernel
theorem dX7_fill_46 : decode cX7_fill 46 = .ok (.iconst 0, 1) := by decide +kernel
theorem dX7_fill_47 : decode cX7_fill 47 = .ok (.istore 5, 2) := by decide +kernel
theorem dX7_fill_49 : decode cX7_fill 49 = .ok (.iload 5, 2) := by decide +kernel
theorem dX7_fill_51 : decode cX7_fill 51 = .ok (.iload_n 2, 1) := by decide +kernel
theorem dX7_fill_52 : decode cX7_fill 52 = .ok (.if_icmp .gt 80, 3) := by decide +kernel
theorem dX7_fill_55 : decode cX7_fill 55 = .ok (.aload_n 0, 1) := by decide +kernel
theorem dX7_fill_56 : decode cX7_fill 56 = .ok (.getfield 55, 3) := by decide +kernel
theorem dX7_fill_59 : decode cX7_fill 59 = .ok (.iload 5, 2) := by decide +kernel
theorem dX7_fill_61 : decode cX7_fill 61 = .ok (.iaload, 1) := by decide +kernel
theorem dX7_fill_62 : decode cX7_fill 62 = .ok (.aload_n 0, 1) := by decide +kernel
theorem dX7_fill_63 : decode cX7_fill 63 = .ok (.getfield 52, 3) := by decide +kernel
theorem dX7_fill_66 : decode cX7_fill 66 = .ok (.iload_n 1, 1) := by decide +kernel
theorem dX7_fill_67 : decode cX7_fill 67 = .ok (.iaload, 1) := by decide +kernel
theorem dX7_fill_68 : decode cX7_fill 68 = .ok (.iand, 1) := by decide +kernel
theorem dX7_fill_69 : decode cX7_fill 69 = .ok (.ifCond .ne 57, 3) := by decide +kernel
theorem dX7_fill_72 : decode cX7_fill 72 = .ok (.aload_n 0, 1) := by decide +kernel
theorem dX7_fill_73 : decode cX7_fill 73 = .ok (.getfield 55, 3) := by decide +kernel
theorem dX7_fill_76 : decode cX7_fill 76 = .ok (.iload 5, 2) := by decide +kernel
theorem dX7_fill_78 : decode cX7_fill 78 = .ok (.dup2, 1) := by decide +kernel
theorem dX7_fill_79 : decode cX7_fill 79 = .ok (.iaload, 1) := by decide +kernel
theorem dX7_fill_80 : decode cX7_fill 80 = .ok (.iconst 1, 1) := by decide +kernel
theorem dX7_fill_81 : decode cX7_fill 81 = .ok (.iload_n 1, 1) := by decide +kernel
theorem dX7_fill_82 : decode cX7_fill 82 = .ok (.ishl, 1) := by decide +kernel
theorem dX7_fill_83 : decode cX7_fill 83 = .ok (.ior, 1) := by decide +kernel
theorem dX7_fill_84 : decode cX7_fill 84 = .ok (.iastore, 1) := by decide +kernel
theorem dX7_fill_85 : decode cX7_fill 85 = .ok (.aload_n 0, 1) := by decide +kernel
theorem dX7_fill_86 : decode cX7_fill 86 = .ok (.iload_n 1, 1) := by decide +kernel
theorem dX7_fill_87 : decode cX7_fill 87 = .ok (.iconst 1, 1) := by decide +kernel
theorem dX7_fill_88 : decode cX7_fill 88 = .ok (.iadd, 1) := by decide +kernel
theorem dX7_fill_89 : decode cX7_fill 89 = .ok (.iload_n 2, 1) := by decide +kernel
theorem dX7_fill_90 : decode cX7_fill 90 = .ok (.iload 5, 2) := by decide +kernel
theorem dX7_fill_92 : decode cX7_fill 92 = .ok (.iconst 1, 1) := by decide +kernel
theorem dX7_fill_93 : decode cX7_fill 93 = .ok (.iadd, 1) := by decide +kernel
theorem dX7_fill_94 : decode cX7_fill 94 = .ok (.invokestatic 83, 3) := by decide +kernel
theorem dX7_fill_97 : decode cX7_fill 97 = .ok (.bipush 10, 2) := by decide +kernel
theorem dX7_fill_99 : decode cX7_fill 99 = .ok (.iload_n 3, 1) := by decide +kernel
theorem dX7_fill_100 : decode cX7_fill 100 = .ok (.imul, 1) := by decide +kernel
theorem dX7_fill_101 : decode cX7_fill 101 = .ok (.iload 5, 2) := by decide +kernel
theorem dX7_fill_103 : decode cX7_fill 103 = .ok (.iadd, 1) := by decide +kernel
theorem dX7_fill_104 : decode cX7_fill 104 = .ok (.iconst 1, 1) := by decide +kernel
theorem dX7_fill_105 : decode cX7_fill 105 = .ok (.iadd, 1) := by decide +kernel
theorem dX7_fill_106 : decode cX7_fill 106 = .ok (.iload 4, 2) := by decide +kernel
theorem dX7_fill_108 : decode cX7_fill 108 = .ok (.invokevirtual 257, 3) := by decide +kernel
theorem dX7_fill_111 : decode cX7_fill 111 = .ok (.aload_n 0, 1) := by decide +kernel
theorem dX7_fill_112 : decode cX7_fill 112 = .ok (.getfield 55, 3) := by decide +kernel
theorem dX7_fill_115 : decode cX7_fill 115 = .ok (.iload 5, 2) := by decide +kernel
theorem dX7_fill_117 : decode cX7_fill 117 = .ok (.dup2, 1) := by decide +kernel
theorem dX7_fill_118 : decode cX7_fill 118 = .ok (.iaload, 1) := by decide +kernel
theorem dX7_fill_119 : decode cX7_fill 119 = .ok (.iconst 1, 1) := by decide +kernel
theorem dX7_fill_120 : decode cX7_fill 120 = .ok (.iload_n 1, 1) := by decide +kernel
theorem dX7_fill_121 : decode cX7_fill 121 = .ok (.ishl, 1) := by decide +kernel
theorem dX7_fill_122 : decode cX7_fill 122 = .ok (.iconst (-1), 1) := by decide +kernel
theorem dX7_fill_123 : decode cX7_fill 123 = .ok (.ixor, 1) := by decide +kernel
theorem dX7_fill_124 : decode cX7_fill 124 = .ok (.iand, 1) := by decide +kernel
theorem dX7_fill_125 : decode cX7_fill 125 = .ok (.iastore, 1) := by decide +kernel
theorem dX7_fill_126 : decode cX7_fill 126 = .ok (.iinc 5 1, 3) := by decide +kernel
theorem dX7_fill_129 : decode cX7_fill 129 = .ok (.goto (-80), 3) := by decide +kernel
theorem dX7_fill_132 : decode cX7_fill 132 = .ok (.return_, 1) := by decide +kernel
theorem dX7_jarsBut_0 : decode cX7_jarsBut 0 = .ok (.iconst 0, 1) := by decide +kernel
theorem dX7_jarsBut_1 : decode cX7_jarsBut 1 = .ok (.istore_n 2, 1) := by decide +kernel
theorem dX7_jarsBut_2 : decode cX7_jarsBut 2 = .ok (.iload_n 2, 1) := by decide +kernel
theorem dX7_jarsBut_3 : decode cX7_jarsBut 3 = .ok (.aload_n 0, 1) := by decide +kernel
theorem dX7_jarsBut_4 : decode cX7_jarsBut 4 = .ok (.invokevirtual 101, 3) := by decide +kernel
theorem dX7_jarsBut_7 : decode cX7_jarsBut 7 = .ok (.if_icmp .ge 62, 3) := by decide +kernel
theorem dX7_jarsBut_10 : decode cX7_jarsBut 10 = .ok (.aload_n 0, 1) := by decide +kernel
theorem dX7_jarsBut_11 : decode cX7_jarsBut 11 = .ok (.getfield 52, 3) := by decide +kernel
theorem dX7_jarsBut_14 : decode cX7_jarsBut 14 = .ok (.iload_n 2, 1) := by decide +kernel
theorem dX7_jarsBut_15 : decode cX7_jarsBut 15 = .ok (.iconst 0, 1) := by decide +kernel
theorem dX7_jarsBut_16 : decode cX7_jarsBut 16 = .ok (.iastore, 1) := by decide +kernel
theorem dX7_jarsBut_17 : decode cX7_jarsBut 17 = .ok (.iconst 0, 1) := by decide +kernel
theorem dX7_jarsBut_18 : decode cX7_jarsBut 18 = .ok (.istore_n 3, 1) := by decide +kernel
theorem dX7_jarsBut_19 : decode cX7_jarsBut 19 = .ok (.iload_n 3, 1) := by decide +kernel
theorem dX7_jarsBut_20 : decode cX7_jarsBut 20 = .ok (.aload_n 0, 1) := by decide +kernel
theorem dX7_jarsBut_21 : decode cX7_jarsBut 21 = .ok (.invokevirtual 101, 3) := by decide +kernel
theorem dX7_jarsBut_24 : decode cX7_jarsBut 24 = .ok (.if_icmp .ge 39, 3) := by decide +kernel
theorem dX7_jarsBut_27 : decode cX7_jarsBut 27 = .ok (.aload_n 0, 1) := by decide +kernel
theorem dX7_jarsBut_28 : decode cX7_jarsBut 28 = .ok (.getfield 52, 3) := by decide +kernel
theorem dX7_jarsBut_31 : decode cX7_jarsBut 31 = .ok (.iload_n 2, 1) := by decide +kernel
theorem dX7_jarsBut_32 : decode cX7_jarsBut 32 = .ok (.dup2, 1) := by decide +kernel
theorem dX7_jarsBut_33 : decode cX7_jarsBut 33 = .ok (.iaload, 1) := by decide +kernel
theorem dX7_jarsBut_34 : decode cX7_jarsBut 34 = .ok (.iload_n 3, 1) := by decide +kernel
theorem dX7_jarsBut_35 : decode cX7_jarsBut 35 = .ok (.iload_n 2, 1) := by decide +kernel
theorem dX7_jarsBut_36 : decode cX7_jarsBut 36 = .ok (.if_icmp .eq 18, 3) := by decide +kernel
theorem dX7_jarsBut_39 : decode cX7_jarsBut 39 = .ok (.aload_n 0, 1) := by decide +kernel
theorem dX7_jarsBut_40 : decode cX7_jarsBut 40 = .ok (.iload_n 2, 1) := by decide +kernel
theorem dX7_jarsBut_41 : decode cX7_jarsBut 41 = .ok (.iload_n 3, 1) := by decide +kernel
theorem dX7_jarsBut_42 : decode cX7_jarsBut 42 = .ok (.invokevirtual 261, 3) := by decide +kernel
theorem dX7_jarsBut_45 : decode cX7_jarsBut 45 = .ok (.ifCond .eq 9, 3) := by decide +kernel
theorem dX7_jarsBut_48 : decode cX7_jarsBut 48 = .ok (.iconst 1, 1) := by decide +kernel
theorem dX7_jarsBut_49 : decode cX7_jarsBut 49 = .ok (.iload_n 3, 1) := by decide +kernel
theorem dX7_jarsBut_50 : decode cX7_jarsBut 50 = .ok (.ishl, 1) := by decide +kernel
theorem dX7_jarsBut_51 : decode cX7_jarsBut 51 = .ok (.goto 4, 3) := by decide +kernel
theorem dX7_jarsBut_54 : decode cX7_jarsBut 54 = .ok (.iconst 0, 1) := by decide +kernel
theorem dX7_jarsBut_55 : decode cX7_jarsBut 55 = .ok (.ior, 1) := by decide +kernel
theorem dX7_jarsBut_56 : decode cX7_jarsBut 56 = .ok (.iastore, 1) := by decide +kernel
theorem dX7_jarsBut_57 : decode cX7_jarsBut 57 = .ok (.iinc 3 1, 3) := by decide +kernel
theorem dX7_jarsBut_60 : decode cX7_jarsBut 60 = .ok (.goto (-41), 3) := by decide +kernel
theorem dX7_jarsBut_63 : decode cX7_jarsBut 63 = .ok (.iinc 2 1, 3) := by decide +kernel
theorem dX7_jarsBut_66 : decode cX7_jarsBut 66 = .ok (.goto (-64), 3) := by decide +kernel
theorem dX7_jarsBut_69 : decode cX7_jarsBut 69 = .ok (.aload_n 0, 1) := by decide +kernel
theorem dX7_jarsBut_70 : decode cX7_jarsBut 70 = .ok (.bipush 9, 2) := by decide +kernel
theorem dX7_jarsBut_72 : decode cX7_jarsBut 72 = .ok (.putfield 251, 3) := by decide +kernel
theorem dX7_jarsBut_75 : decode cX7_jarsBut 75 = .ok (.aload_n 0, 1) := by decide +kernel
theorem dX7_jarsBut_76 : decode cX7_jarsBut 76 = .ok (.iconst 0, 1) := by decide +kernel
theorem dX7_jarsBut_77 : decode cX7_jarsBut 77 = .ok (.putfield 254, 3) := by decide +kernel
theorem dX7_jarsBut_80 : decode cX7_jarsBut 80 = .ok (.aload_n 0, 1) := by decide +kernel
theorem dX7_jarsBut_81 : decode cX7_jarsBut 81 = .ok (.iconst 0, 1) := by decide +kernel
theorem dX7_jarsBut_82 : decode cX7_jarsBut 82 = .ok (.iconst 0, 1) := by decide +kernel
theorem dX7_jarsBut_83 : decode cX7_jarsBut 83 = .ok (.iconst 0, 1) := by decide +kernel
theorem dX7_jarsBut_84 : decode cX7_jarsBut 84 = .ok (.iload_n 1, 1) := by decide +kernel
theorem dX7_jarsBut_85 : decode cX7_jarsBut 85 = .ok (.invokevirtual 257, 3) := by decide +kernel
theorem dX7_jarsBut_88 : decode cX7_jarsBut 88 = .ok (.aload_n 0, 1) := by decide +kernel
theorem dX7_jarsBut_89 : decode cX7_jarsBut 89 = .ok (.getfield 251, 3) := by decide +kernel
theorem dX7_jarsBut_92 : decode cX7_jarsBut 92 = .ok (.ireturn, 1) := by decide +kernel
theorem dX7_jars_0 : decode cX7_jars 0 = .ok (.iload_n 1, 1) := by decide +kernel
theorem dX7_jars_1 : decode cX7_jars 1 = .ok (.iconst 0, 1) := by decide +kernel
theorem dX7_jars_2 : decode cX7_jars 2 = .ok (.iconst 3, 1) := by decide +kernel
theorem dX7_jars_3 : decode cX7_jars 3 = .ok (.invokestatic 86, 3) := by decide +kernel
theorem dX7_jars_6 : decode cX7_jars 6 = .ok (.ifCond .ne 6, 3) := by decide +kernel
theorem dX7_jars_9 : decode cX7_jars 9 = .ok (.bipush (-2), 2) := by decide +kernel
theorem dX7_jars_11 : decode cX7_jars 11 = .ok (.ireturn, 1) := by decide +kernel
theorem dX7_jars_12 : decode cX7_jars 12 = .ok (.iload_n 1, 1) := by decide +kernel
theorem dX7_jars_13 : decode cX7_jars 13 = .ok (.iconst 2, 1) := by decide +kernel
theorem dX7_jars_14 : decode cX7_jars 14 = .ok (.if_icmp .ge 22, 3) := by decide +kernel
theorem dX7_jars_17 : decode cX7_jars 17 = .ok (.aload_n 0, 1) := by decide +kernel
theorem dX7_jars_18 : decode cX7_jars 18 = .ok (.iconst (-1), 1) := by decide +kernel
theorem dX7_jars_19 : decode cX7_jars 19 = .ok (.invokevirtual 264, 3) := by decide +kernel
theorem dX7_jars_22 : decode cX7_jars 22 = .ok (.istore_n 2, 1) := by decide +kernel
theorem dX7_jars_23 : decode cX7_jars 23 = .ok (.iload_n 1, 1) := by decide +kernel
theorem dX7_jars_24 : decode cX7_jars 24 = .ok (.ifCond .ne 7, 3) := by decide +kernel
theorem dX7_jars_27 : decode cX7_jars 27 = .ok (.iload_n 2, 1) := by decide +kernel
theorem dX7_jars_28 : decode cX7_jars 28 = .ok (.goto 7, 3) := by decide +kernel
theorem dX7_jars_31 : decode cX7_jars 31 = .ok (.aload_n 0, 1) := by decide +kernel
theorem dX7_jars_32 : decode cX7_jars 32 = .ok (.getfield 254, 3) := by decide +kernel
theorem dX7_jars_35 : decode cX7_jars 35 = .ok (.ireturn, 1) := by decide +kernel
theorem dX7_jars_36 : decode cX7_jars 36 = .ok (.iconst (-1), 1) := by decide +kernel
theorem dX7_jars_37 : decode cX7_jars 37 = .ok (.istore_n 2, 1) := by decide +kernel
theorem dX7_jars_38 : decode cX7_jars 38 = .ok (.iconst 0, 1) := by decide +kernel
theorem dX7_jars_39 : decode cX7_jars 39 = .ok (.istore_n 3, 1) := by decide +kernel
theorem dX7_jars_40 : decode cX7_jars 40 = .ok (.iconst 0, 1) := by decide +kernel
theorem dX7_jars_41 : decode cX7_jars 41 = .ok (.istore 4, 2) := by decide +kernel
theorem dX7_jars_43 : decode cX7_jars 43 = .ok (.iload 4, 2) := by decide +kernel
theorem dX7_jars_45 : decode cX7_jars 45 = .ok (.aload_n 0, 1) := by decide +kernel
theorem dX7_jars_46 : decode cX7_jars 46 = .ok (.invokevirtual 101, 3) := by decide +kernel
theorem dX7_jars_49 : decode cX7_jars 49 = .ok (.if_icmp .ge 34, 3) := by decide +kernel
theorem dX7_jars_52 : decode cX7_jars 52 = .ok (.aload_n 0, 1) := by decide +kernel
theorem dX7_jars_53 : decode cX7_jars 53 = .ok (.iload 4, 2) := by decide +kernel
theorem dX7_jars_55 : decode cX7_jars 55 = .ok (.invokevirtual 264, 3) := by decide +kernel
theorem dX7_jars_58 : decode cX7_jars 58 = .ok (.istore 5, 2) := by decide +kernel
theorem dX7_jars_60 : decode cX7_jars 60 = .ok (.iload_n 2, 1) := by decide +kernel
theorem dX7_jars_61 : decode cX7_jars 61 = .ok (.iconst (-1), 1) := by decide +kernel
theorem dX7_jars_62 : decode cX7_jars 62 = .ok (.if_icmp .eq 9, 3) := by decide +kernel
theorem dX7_jars_65 : decode cX7_jars 65 = .ok (.iload 5, 2) := by decide +kernel
theorem dX7_jars_67 : decode cX7_jars 67 = .ok (.iload_n 3, 1) := by decide +kernel
theorem dX7_jars_68 : decode cX7_jars 68 = .ok (.if_icmp .ge 9, 3) := by decide +kernel
theorem dX7_jars_71 : decode cX7_jars 71 = .ok (.iload 4, 2) := by decide +kernel
theorem dX7_jars_73 : decode cX7_jars 73 = .ok (.istore_n 2, 1) := by decide +kernel
theorem dX7_jars_74 : decode cX7_jars 74 = .ok (.iload 5, 2) := by decide +kernel
theorem dX7_jars_76 : decode cX7_jars 76 = .ok (.istore_n 3, 1) := by decide +kernel
theorem dX7_jars_77 : decode cX7_jars 77 = .ok (.iinc 4 1, 3) := by decide +kernel
theorem dX7_jars_80 : decode cX7_jars 80 = .ok (.goto (-37), 3) := by decide +kernel
theorem dX7_jars_83 : decode cX7_jars 83 = .ok (.iload_n 1, 1) := by decide +kernel
theorem dX7_jars_84 : decode cX7_jars 84 = .ok (.iconst 2, 1) := by decide +kernel
theorem dX7_jars_85 : decode cX7_jars 85 = .ok (.if_icmp .ne 7, 3) := by decide +kernel
theorem dX7_jars_88 : decode cX7_jars 88 = .ok (.iload_n 2, 1) := by decide +kernel
theorem dX7_jars_89 : decode cX7_jars 89 = .ok (.goto 4, 3) := by decide +kernel
theorem dX7_jars_92 : decode cX7_jars 92 = .ok (.iload_n 3, 1) := by decide +kernel
theorem dX7_jars_93 : decode cX7_jars 93 = .ok (.ireturn, 1) := by decide +kernel
theorem dX7_can_0 : decode cX7_can 0 = .ok (.aload_n 0, 1) := by decide +kernel
theorem dX7_can_1 : decode cX7_can 1 = .ok (.iload_n 1, 1) := by decide +kernel
theorem dX7_can_2 : decode cX7_can 2 = .ok (.iload_n 2, 1) := by decide +kernel
theorem dX7_can_3 : decode cX7_can 3 = .ok (.invokevirtual 242, 3) := by decide +kernel
theorem dX7_can_6 : decode cX7_can 6 = .ok (.ifCond .ne 8, 3) := by decide +kernel
theorem dX7_can_9 : decode cX7_can 9 = .ok (.bipush (-2), 2) := by decide +kernel
theorem dX7_can_11 : decode cX7_can 11 = .ok (.goto 17, 3) := by decide +kernel
theorem dX7_can_14 : decode cX7_can 14 = .ok (.aload_n 0, 1) := by decide +kernel
theorem dX7_can_15 : decode cX7_can 15 = .ok (.iload_n 1, 1) := by decide +kernel
theorem dX7_can_16 : decode cX7_can 16 = .ok (.iload_n 2, 1) := by decide +kernel
theorem dX7_can_17 : decode cX7_can 17 = .ok (.invokevirtual 261, 3) := by decide +kernel
theorem dX7_can_20 : decode cX7_can 20 = .ok (.ifCond .eq 7, 3) := by decide +kernel
theorem dX7_can_23 : decode cX7_can 23 = .ok (.iconst 0, 1) := by decide +kernel
theorem dX7_can_24 : decode cX7_can 24 = .ok (.goto 4, 3) := by decide +kernel
theorem dX7_can_27 : decode cX7_can 27 = .ok (.iconst 1, 1) := by decide +kernel
theorem dX7_can_28 : decode cX7_can 28 = .ok (.ireturn, 1) := by decide +kernel
theorem dX7_pair_0 : decode cX7_pair 0 = .ok (.iload_n 1, 1) := by decide +kernel
theorem dX7_pair_1 : decode cX7_pair 1 = .ok (.aload_n 0, 1) := by decide +kernel
theorem dX7_pair_2 : decode cX7_pair 2 = .ok (.invokevirtual 101, 3) := by decide +kernel
theorem dX7_pair_5 : decode cX7_pair 5 = .ok (.if_icmp .ne 5, 3) := by decide +kernel
theorem dX7_pair_8 : decode cX7_pair 8 = .ok (.iconst 0, 1) := by decide +kernel
theorem dX7_pair_9 : decode cX7_pair 9 = .ok (.ireturn, 1) := by decide +kernel
theorem dX7_pair_10 : decode cX7_pair 10 = .ok (.aload_n 0, 1) := by decide +kernel
theorem dX7_pair_11 : decode cX7_pair 11 = .ok (.iload_n 1, 1) := by decide +kernel
theorem dX7_pair_12 : decode cX7_pair 12 = .ok (.iconst 1, 1) := by decide +kernel
theorem dX7_pair_13 : decode cX7_pair 13 = .ok (.iadd, 1) := by decide +kernel
theorem dX7_pair_14 : decode cX7_pair 14 = .ok (.iload_n 2, 1) := by decide +kernel
theorem dX7_pair_15 : decode cX7_pair 15 = .ok (.iload_n 3, 1) := by decide +kernel
theorem dX7_pair_16 : decode cX7_pair 16 = .ok (.invokevirtual 267, 3) := by decide +kernel
theorem dX7_pair_19 : decode cX7_pair 19 = .ok (.istore 4, 2) := by decide +kernel
theorem dX7_pair_21 : decode cX7_pair 21 = .ok (.iload_n 1, 1) := by decide +kernel
theorem dX7_pair_22 : decode cX7_pair 22 = .ok (.iconst 1, 1) := by decide +kernel
theorem dX7_pair_23 : decode cX7_pair 23 = .ok (.iadd, 1) := by decide +kernel
theorem dX7_pair_24 : decode cX7_pair 24 = .ok (.istore 5, 2) := by decide +kernel
theorem dX7_pair_26 : decode cX7_pair 26 = .ok (.iload 5, 2) := by decide +kernel
theorem dX7_pair_28 : decode cX7_pair 28 = .ok (.aload_n 0, 1) := by decide +kernel
theorem dX7_pair_29 : decode cX7_pair 29 = .ok (.invokevirtual 101, 3) := by decide +kernel
theorem dX7_pair_32 : decode cX7_pair 32 = .ok (.if_icmp .ge 118, 3) := by decide +kernel
theorem dX7_pair_35 : decode cX7_pair 35 = .ok (.iload_n 3, 1) := by decide +kernel
theorem dX7_pair_36 : decode cX7_pair 36 = .ok (.iload_n 1, 1) := by decide +kernel
theorem dX7_pair_37 : decode cX7_pair 37 = .ok (.ishr, 1) := by decide +kernel
theorem dX7_pair_38 : decode cX7_pair 38 = .ok (.iconst 1, 1) := by decide +kernel
theorem dX7_pair_39 : decode cX7_pair 39 = .ok (.iand, 1) := by decide +kernel
theorem dX7_pair_40 : decode cX7_pair 40 = .ok (.ifCond .ne 110, 3) := by decide +kernel
theorem dX7_pair_43 : decode cX7_pair 43 = .ok (.iload_n 3, 1) := by decide +kernel
theorem dX7_pair_44 : decode cX7_pair 44 = .ok (.iload 5, 2) := by decide +kernel
theorem dX7_pair_46 : decode cX7_pair 46 = .ok (.ishr, 1) := by decide +kernel
theorem dX7_pair_47 : decode cX7_pair 47 = .ok (.iconst 1, 1) := by decide +kernel
theorem dX7_pair_48 : decode cX7_pair 48 = .ok (.iand, 1) := by decide +kernel
theorem dX7_pair_49 : decode cX7_pair 49 = .ok (.ifCond .ne 59, 3) := by decide +kernel
theorem dX7_pair_52 : decode cX7_pair 52 = .ok (.aload_n 0, 1) := by decide +kernel
theorem dX7_pair_53 : decode cX7_pair 53 = .ok (.iload_n 1, 1) := by decide +kernel
theorem dX7_pair_54 : decode cX7_pair 54 = .ok (.iconst 4, 1) := by decide +kernel
theorem dX7_pair_55 : decode cX7_pair 55 = .ok (.invokevirtual 108, 3) := by decide +kernel
theorem dX7_pair_58 : decode cX7_pair 58 = .ok (.aload_n 0, 1) := by decide +kernel
theorem dX7_pair_59 : decode cX7_pair 59 = .ok (.iload 5, 2) := by decide +kernel
theorem dX7_pair_61 : decode cX7_pair 61 = .ok (.iconst 4, 1) := by decide +kernel
theorem dX7_pair_62 : decode cX7_pair 62 = .ok (.invokevirtual 108, 3) := by decide +kernel
theorem dX7_pair_65 : decode cX7_pair 65 = .ok (.if_icmp .eq 43, 3) := by decide +kernel
theorem dX7_pair_68 : decode cX7_pair 68 = .ok (.aload_n 0, 1) := by decide +kernel
theorem dX7_pair_69 : decode cX7_pair 69 = .ok (.iload_n 1, 1) := by decide +kernel
theorem dX7_pair_70 : decode cX7_pair 70 = .ok (.iconst 1, 1) := by decide +kernel
theorem dX7_pair_71 : decode cX7_pair 71 = .ok (.invokevirtual 108, 3) := by decide +kernel
theorem dX7_pair_74 : decode cX7_pair 74 = .ok (.aload_n 0, 1) := by decide +kernel
theorem dX7_pair_75 : decode cX7_pair 75 = .ok (.iload 5, 2) := by decide +kernel
theorem dX7_pair_77 : decode cX7_pair 77 = .ok (.iconst 1, 1) := by decide +kernel
theorem dX7_pair_78 : decode cX7_pair 78 = .ok (.invokevirtual 108, 3) := by decide +kernel
theorem dX7_pair_81 : decode cX7_pair 81 = .ok (.if_icmp .ne 27, 3) := by decide +kernel
theorem dX7_pair_84 : decode cX7_pair 84 = .ok (.aload_n 0, 1) := by decide +kernel
theorem dX7_pair_85 : decode cX7_pair 85 = .ok (.iload_n 1, 1) := by decide +kernel
theorem dX7_pair_86 : decode cX7_pair 86 = .ok (.iconst 3, 1) := by decide +kernel
theorem dX7_pair_87 : decode cX7_pair 87 = .ok (.invokevirtual 108, 3) := by decide +kernel
theorem dX7_pair_90 : decode cX7_pair 90 = .ok (.aload_n 0, 1) := by decide +kernel
theorem dX7_pair_91 : decode cX7_pair 91 = .ok (.iload 5, 2) := by decide +kernel
theorem dX7_pair_93 : decode cX7_pair 93 = .ok (.iconst 3, 1) := by decide +kernel
theorem dX7_pair_94 : decode cX7_pair 94 = .ok (.invokevirtual 108, 3) := by decide +kernel
theorem dX7_pair_97 : decode cX7_pair 97 = .ok (.invokestatic 196, 3) := by decide +kernel
theorem dX7_pair_100 : decode cX7_pair 100 = .ok (.iload_n 2, 1) := by decide +kernel
theorem dX7_pair_101 : decode cX7_pair 101 = .ok (.if_icmp .gt 7, 3) := by decide +kernel
theorem dX7_pair_104 : decode cX7_pair 104 = .ok (.iconst 1, 1) := by decide +kernel
theorem dX7_pair_105 : decode cX7_pair 105 = .ok (.goto 4, 3) := by decide +kernel
theorem dX7_pair_108 : decode cX7_pair 108 = .ok (.iconst 0, 1) := by decide +kernel
theorem dX7_pair_109 : decode cX7_pair 109 = .ok (.istore 6, 2) := by decide +kernel
theorem dX7_pair_111 : decode cX7_pair 111 = .ok (.iload 6, 2) := by decide +kernel
theorem dX7_pair_113 : decode cX7_pair 113 = .ok (.ifCond .eq 27, 3) := by decide +kernel
theorem dX7_pair_116 : decode cX7_pair 116 = .ok (.iload 4, 2) := by decide +kernel
theorem dX7_pair_118 : decode cX7_pair 118 = .ok (.iconst 1, 1) := by decide +kernel
theorem dX7_pair_119 : decode cX7_pair 119 = .ok (.aload_n 0, 1) := by decide +kernel
theorem dX7_pair_120 : decode cX7_pair 120 = .ok (.iload_n 1, 1) := by decide +kernel
theorem dX7_pair_121 : decode cX7_pair 121 = .ok (.iconst 1, 1) := by decide +kernel
theorem dX7_pair_122 : decode cX7_pair 122 = .ok (.iadd, 1) := by decide +kernel
theorem dX7_pair_123 : decode cX7_pair 123 = .ok (.iload_n 2, 1) := by decide +kernel
theorem dX7_pair_124 : decode cX7_pair 124 = .ok (.iload_n 3, 1) := by decide +kernel
theorem dX7_pair_125 : decode cX7_pair 125 = .ok (.iconst 1, 1) := by decide +kernel
theorem dX7_pair_126 : decode cX7_pair 126 = .ok (.iload 5, 2) := by decide +kernel
theorem dX7_pair_128 : decode cX7_pair 128 = .ok (.ishl, 1) := by decide +kernel
theorem dX7_pair_129 : decode cX7_pair 129 = .ok (.ior, 1) := by decide +kernel
theorem dX7_pair_130 : decode cX7_pair 130 = .ok (.invokevirtual 267, 3) := by decide +kernel
theorem dX7_pair_133 : decode cX7_pair 133 = .ok (.iadd, 1) := by decide +kernel
theorem dX7_pair_134 : decode cX7_pair 134 = .ok (.invokestatic 83, 3) := by decide +kernel
theorem dX7_pair_137 : decode cX7_pair 137 = .ok (.goto 5, 3) := by decide +kernel
theorem dX7_pair_140 : decode cX7_pair 140 = .ok (.iload 4, 2) := by decide +kernel
theorem dX7_pair_142 : decode cX7_pair 142 = .ok (.istore 4, 2) := by decide +kernel
theorem dX7_pair_144 : decode cX7_pair 144 = .ok (.iinc 5 1, 3) := by decide +kernel
theorem dX7_pair_147 : decode cX7_pair 147 = .ok (.goto (-121), 3) := by decide +kernel
theorem dX7_pair_150 : decode cX7_pair 150 = .ok (.iload 4, 2) := by decide +kernel
theorem dX7_pair_152 : decode cX7_pair 152 = .ok (.ireturn, 1) := by decide +kernel
theorem dX7_twos_0 : decode cX7_twos 0 = .ok (.iload_n 1, 1) := by decide +kernel
theorem dX7_twos_1 : decode cX7_twos 1 = .ok (.iconst 0, 1) := by decide +kernel
theorem dX7_twos_2 : decode cX7_twos 2 = .ok (.bipush 6, 2) := by decide +kernel
theorem dX7_twos_4 : decode cX7_twos 4 = .ok (.invokestatic 86, 3) := by decide +kernel
theorem dX7_twos_7 : decode cX7_twos 7 = .ok (.ifCond .eq 13, 3) := by decide +kernel
theorem dX7_twos_10 : decode cX7_twos 10 = .ok (.aload_n 0, 1) := by decide +kernel
theorem dX7_twos_11 : decode cX7_twos 11 = .ok (.iconst 0, 1) := by decide +kernel
theorem dX7_twos_12 : decode cX7_twos 12 = .ok (.iload_n 1, 1) := by decide +kernel
theorem dX7_twos_13 : decode cX7_twos 13 = .ok (.iconst 0, 1) := by decide +kernel
theorem dX7_twos_14 : decode cX7_twos 14 = .ok (.invokevirtual 267, 3) := by decide +kernel
theorem dX7_twos_17 : decode cX7_twos 17 = .ok (.goto 5, 3) := by decide +kernel
theorem dX7_twos_20 : decode cX7_twos 20 = .ok (.bipush (-2), 2) := by decide +kernel
theorem dX7_twos_22 : decode cX7_twos 22 = .ok (.ireturn, 1) := by decide +kernel
theorem dX7_soon_0 : decode cX7_soon 0 = .ok (.aload_n 0, 1) := by decide +kernel
theorem dX7_soon_1 : decode cX7_soon 1 = .ok (.aload_n 0, 1) := by decide +kernel
theorem dX7_soon_2 : decode cX7_soon 2 = .ok (.getfield 16, 3) := by decide +kernel
theorem dX7_soon_5 : decode cX7_soon 5 = .ok (.invokevirtual 223, 3) := by decide +kernel
theorem dX7_soon_8 : decode cX7_soon 8 = .ok (.iconst 0, 1) := by decide +kernel
theorem dX7_soon_9 : decode cX7_soon 9 = .ok (.istore_n 2, 1) := by decide +kernel
theorem dX7_soon_10 : decode cX7_soon 10 = .ok (.iload_n 2, 1) := by decide +kernel
theorem dX7_soon_11 : decode cX7_soon 11 = .ok (.bipush 60, 2) := by decide +kernel
theorem dX7_soon_13 : decode cX7_soon 13 = .ok (.if_icmp .gt 22, 3) := by decide +kernel
theorem dX7_soon_16 : decode cX7_soon 16 = .ok (.aload_n 0, 1) := by decide +kernel
theorem dX7_soon_17 : decode cX7_soon 17 = .ok (.iload_n 1, 1) := by decide +kernel
theorem dX7_soon_18 : decode cX7_soon 18 = .ok (.iconst 2, 1) := by decide +kernel
theorem dX7_soon_19 : decode cX7_soon 19 = .ok (.invokevirtual 108, 3) := by decide +kernel
theorem dX7_soon_22 : decode cX7_soon 22 = .ok (.ifCond .le 13, 3) := by decide +kernel
theorem dX7_soon_25 : decode cX7_soon 25 = .ok (.aload_n 0, 1) := by decide +kernel
theorem dX7_soon_26 : decode cX7_soon 26 = .ok (.invokevirtual 217, 3) := by decide +kernel
theorem dX7_soon_29 : decode cX7_soon 29 = .ok (.iinc 2 1, 3) := by decide +kernel
theorem dX7_soon_32 : decode cX7_soon 32 = .ok (.goto (-22), 3) := by decide +kernel
theorem dX7_soon_35 : decode cX7_soon 35 = .ok (.aload_n 0, 1) := by decide +kernel
theorem dX7_soon_36 : decode cX7_soon 36 = .ok (.aload_n 0, 1) := by decide +kernel
theorem dX7_soon_37 : decode cX7_soon 37 = .ok (.getfield 16, 3) := by decide +kernel
theorem dX7_soon_40 : decode cX7_soon 40 = .ok (.invokevirtual 233, 3) := by decide +kernel
theorem dX7_soon_43 : decode cX7_soon 43 = .ok (.iload_n 2, 1) := by decide +kernel
theorem dX7_soon_44 : decode cX7_soon 44 = .ok (.ireturn, 1) := by decide +kernel
theorem dX7_toss_0 : decode cX7_toss 0 = .ok (.aload_n 0, 1) := by decide +kernel
theorem dX7_toss_1 : decode cX7_toss 1 = .ok (.iload_n 1, 1) := by decide +kernel
theorem dX7_toss_2 : decode cX7_toss 2 = .ok (.invokevirtual 94, 3) := by decide +kernel
theorem dX7_toss_5 : decode cX7_toss 5 = .ok (.ifCond .eq 12, 3) := by decide +kernel
theorem dX7_toss_8 : decode cX7_toss 8 = .ok (.iload_n 2, 1) := by decide +kernel
theorem dX7_toss_9 : decode cX7_toss 9 = .ok (.iconst 0, 1) := by decide +kernel
theorem dX7_toss_10 : decode cX7_toss 10 = .ok (.iconst 1, 1) := by decide +kernel
theorem dX7_toss_11 : decode cX7_toss 11 = .ok (.invokestatic 86, 3) := by decide +kernel
theorem dX7_toss_14 : decode cX7_toss 14 = .ok (.ifCond .ne 6, 3) := by decide +kernel
theorem dX7_toss_17 : decode cX7_toss 17 = .ok (.bipush (-2), 2) := by decide +kernel
theorem dX7_toss_19 : decode cX7_toss 19 = .ok (.ireturn, 1) := by decide +kernel
theorem dX7_toss_20 : decode cX7_toss 20 = .ok (.aload_n 0, 1) := by decide +kernel
theorem dX7_toss_21 : decode cX7_toss 21 = .ok (.iload_n 1, 1) := by decide +kernel
theorem dX7_toss_22 : decode cX7_toss 22 = .ok (.iconst 3, 1) := by decide +kernel
theorem dX7_toss_23 : decode cX7_toss 23 = .ok (.invokevirtual 108, 3) := by decide +kernel
theorem dX7_toss_26 : decode cX7_toss 26 = .ok (.istore_n 3, 1) := by decide +kernel
theorem dX7_toss_27 : decode cX7_toss 27 = .ok (.iconst 0, 1) := by decide +kernel
theorem dX7_toss_28 : decode cX7_toss 28 = .ok (.istore 4, 2) := by decide +kernel
theorem dX7_toss_30 : decode cX7_toss 30 = .ok (.bipush 62, 2) := by decide +kernel
theorem dX7_toss_32 : decode cX7_toss 32 = .ok (.istore 5, 2) := by decide +kernel
theorem dX7_toss_34 : decode cX7_toss 34 = .ok (.iconst 0, 1) := by decide +kernel
theorem dX7_toss_35 : decode cX7_toss 35 = .ok (.istore 6, 2) := by decide +kernel
theorem dX7_toss_37 : decode cX7_toss 37 = .ok (.iload 6, 2) := by decide +kernel
theorem dX7_toss_39 : decode cX7_toss 39 = .ok (.bipush 12, 2) := by decide +kernel
theorem dX7_toss_41 : decode cX7_toss 41 = .ok (.if_icmp .ge 49, 3) := by decide +kernel
theorem dX7_toss_44 : decode cX7_toss 44 = .ok (.aload_n 0, 1) := by decide +kernel
theorem dX7_toss_45 : decode cX7_toss 45 = .ok (.iload_n 1, 1) := by decide +kernel
theorem dX7_toss_46 : decode cX7_toss 46 = .ok (.iconst 3, 1) := by decide +kernel
theorem dX7_toss_47 : decode cX7_toss 47 = .ok (.iload 6, 2) := by decide +kernel
theorem dX7_toss_49 : decode cX7_toss 49 = .ok (.invokevirtual 104, 3) := by decide +kernel
theorem dX7_toss_52 : decode cX7_toss 52 = .ok (.aload_n 0, 1) := by decide +kernel
theorem dX7_toss_53 : decode cX7_toss 53 = .ok (.iload_n 1, 1) := by decide +kernel
theorem dX7_toss_54 : decode cX7_toss 54 = .ok (.invokevirtual 270, 3) := by decide +kernel
theorem dX7_toss_57 : decode cX7_toss 57 = .ok (.istore 7, 2) := by decide +kernel
theorem dX7_toss_59 : decode cX7_toss 59 = .ok (.iload 7, 2) := by decide +kernel
theorem dX7_toss_61 : decode cX7_toss 61 = .ok (.iload 5, 2) := by decide +kernel
theorem dX7_toss_63 : decode cX7_toss 63 = .ok (.if_icmp .ge 8, 3) := by decide +kernel
theorem dX7_toss_66 : decode cX7_toss 66 = .ok (.iload 6, 2) := by decide +kernel
theorem dX7_toss_68 : decode cX7_toss 68 = .ok (.goto 5, 3) := by decide +kernel
theorem dX7_toss_71 : decode cX7_toss 71 = .ok (.iload 4, 2) := by decide +kernel
theorem dX7_toss_73 : decode cX7_toss 73 = .ok (.istore 4, 2) := by decide +kernel
theorem dX7_toss_75 : decode cX7_toss 75 = .ok (.iload 7, 2) := by decide +kernel
theorem dX7_toss_77 : decode cX7_toss 77 = .ok (.iload 5, 2) := by decide +kernel
theorem dX7_toss_79 : decode cX7_toss 79 = .ok (.invokestatic 77, 3) := by decide +kernel
theorem dX7_toss_82 : decode cX7_toss 82 = .ok (.istore 5, 2) := by decide +kernel
theorem dX7_toss_84 : decode cX7_toss 84 = .ok (.iinc 6 1, 3) := by decide +kernel
theorem dX7_toss_87 : decode cX7_toss 87 = .ok (.goto (-50), 3) := by decide +kernel
theorem dX7_toss_90 : decode cX7_toss 90 = .ok (.aload_n 0, 1) := by decide +kernel
theorem dX7_toss_91 : decode cX7_toss 91 = .ok (.iload_n 1, 1) := by decide +kernel
theorem dX7_toss_92 : decode cX7_toss 92 = .ok (.iconst 3, 1) := by decide +kernel
theorem dX7_toss_93 : decode cX7_toss 93 = .ok (.iload_n 3, 1) := by decide +kernel
theorem dX7_toss_94 : decode cX7_toss 94 = .ok (.invokevirtual 104, 3) := by decide +kernel
theorem dX7_toss_97 : decode cX7_toss 97 = .ok (.iload_n 2, 1) := by decide +kernel
theorem dX7_toss_98 : decode cX7_toss 98 = .ok (.ifCond .ne 8, 3) := by decide +kernel
theorem dX7_toss_101 : decode cX7_toss 101 = .ok (.iload 4, 2) := by decide +kernel
theorem dX7_toss_103 : decode cX7_toss 103 = .ok (.goto 5, 3) := by decide +kernel
theorem dX7_toss_106 : decode cX7_toss 106 = .ok (.iload 5, 2) := by decide +kernel
theorem dX7_toss_108 : decode cX7_toss 108 = .ok (.ireturn, 1) := by decide +kernel
theorem dX7_gcd_0 : decode cX7_gcd 0 = .ok (.lload_n 2, 1) := by decide +kernel
theorem dX7_gcd_1 : decode cX7_gcd 1 = .ok (.lconst 0, 1) := by decide +kernel
theorem dX7_gcd_2 : decode cX7_gcd 2 = .ok (.lcmp, 1) := by decide +kernel
theorem dX7_gcd_3 : decode cX7_gcd 3 = .ok (.ifCond .ne 7, 3) := by decide +kernel
theorem dX7_gcd_6 : decode cX7_gcd 6 = .ok (.lload_n 0, 1) := by decide +kernel
theorem dX7_gcd_7 : decode cX7_gcd 7 = .ok (.goto 10, 3) := by decide +kernel
theorem dX7_gcd_10 : decode cX7_gcd 10 = .ok (.lload_n 2, 1) := by decide +kernel
theorem dX7_gcd_11 : decode cX7_gcd 11 = .ok (.lload_n 0, 1) := by decide +kernel
theorem dX7_gcd_12 : decode cX7_gcd 12 = .ok (.lload_n 2, 1) := by decide +kernel
theorem dX7_gcd_13 : decode cX7_gcd 13 = .ok (.lrem, 1) := by decide +kernel
theorem dX7_gcd_14 : decode cX7_gcd 14 = .ok (.invokestatic 273, 3) := by decide +kernel
theorem dX7_gcd_17 : decode cX7_gcd 17 = .ok (.lreturn, 1) := by decide +kernel
theorem dX7_mean_0 : decode cX7_mean 0 = .ok (.iload_n 1, 1) := by decide +kernel
theorem dX7_mean_1 : decode cX7_mean 1 = .ok (.iconst 0, 1) := by decide +kernel
theorem dX7_mean_2 : decode cX7_mean 2 = .ok (.iconst 1, 1) := by decide +kernel
theorem dX7_mean_3 : decode cX7_mean 3 = .ok (.invokestatic 86, 3) := by decide +kernel
theorem dX7_mean_6 : decode cX7_mean 6 = .ok (.ifCond .eq 10, 3) := by decide +kernel
theorem dX7_mean_9 : decode cX7_mean 9 = .ok (.aload_n 0, 1) := by decide +kernel
theorem dX7_mean_10 : decode cX7_mean 10 = .ok (.invokevirtual 101, 3) := by decide +kernel
theorem dX7_mean_13 : decode cX7_mean 13 = .ok (.ifCond .ne 7, 3) := by decide +kernel
theorem dX7_mean_16 : decode cX7_mean 16 = .ok (.ldc2_w 277, 3) := by decide +kernel
theorem dX7_mean_19 : decode cX7_mean 19 = .ok (.lreturn, 1) := by decide +kernel
theorem dX7_mean_20 : decode cX7_mean 20 = .ok (.aload_n 0, 1) := by decide +kernel
theorem dX7_mean_21 : decode cX7_mean 21 = .ok (.invokevirtual 101, 3) := by decide +kernel
theorem dX7_mean_24 : decode cX7_mean 24 = .ok (.i2l, 1) := by decide +kernel
theorem dX7_mean_25 : decode cX7_mean 25 = .ok (.aload_n 0, 1) := by decide +kernel
theorem dX7_mean_26 : decode cX7_mean 26 = .ok (.invokevirtual 227, 3) := by decide +kernel
theorem dX7_mean_29 : decode cX7_mean 29 = .ok (.i2l, 1) := by decide +kernel
theorem dX7_mean_30 : decode cX7_mean 30 = .ok (.invokestatic 273, 3) := by decide +kernel
theorem dX7_mean_33 : decode cX7_mean 33 = .ok (.lstore_n 2, 1) := by decide +kernel
theorem dX7_mean_34 : decode cX7_mean 34 = .ok (.iload_n 1, 1) := by decide +kernel
theorem dX7_mean_35 : decode cX7_mean 35 = .ok (.ifCond .ne 13, 3) := by decide +kernel
theorem dX7_mean_38 : decode cX7_mean 38 = .ok (.aload_n 0, 1) := by decide +kernel
theorem dX7_mean_39 : decode cX7_mean 39 = .ok (.invokevirtual 227, 3) := by decide +kernel
theorem dX7_mean_42 : decode cX7_mean 42 = .ok (.i2l, 1) := by decide +kernel
theorem dX7_mean_43 : decode cX7_mean 43 = .ok (.lload_n 2, 1) := by decide +kernel
theorem dX7_mean_44 : decode cX7_mean 44 = .ok (.ldiv, 1) := by decide +kernel
theorem dX7_mean_45 : decode cX7_mean 45 = .ok (.goto 10, 3) := by decide +kernel
theorem dX7_mean_48 : decode cX7_mean 48 = .ok (.aload_n 0, 1) := by decide +kernel
theorem dX7_mean_49 : decode cX7_mean 49 = .ok (.invokevirtual 101, 3) := by decide +kernel
theorem dX7_mean_52 : decode cX7_mean 52 = .ok (.i2l, 1) := by decide +kernel
theorem dX7_mean_53 : decode cX7_mean 53 = .ok (.lload_n 2, 1) := by decide +kernel
theorem dX7_mean_54 : decode cX7_mean 54 = .ok (.ldiv, 1) := by decide +kernel
theorem dX7_mean_55 : decode cX7_mean 55 = .ok (.lreturn, 1) := by decide +kernel
theorem dX7_isSheet_0 : decode cX7_isSheet 0 = .ok (.iload_n 0, 1) := by decide +kernel
theorem dX7_isSheet_1 : decode cX7_isSheet 1 = .ok (.iconst 0, 1) := by decide +kernel
theorem dX7_isSheet_2 : decode cX7_isSheet 2 = .ok (.iconst 3, 1) := by decide +kernel
theorem dX7_isSheet_3 : decode cX7_isSheet 3 = .ok (.invokestatic 86, 3) := by decide +kernel
theorem dX7_isSheet_6 : decode cX7_isSheet 6 = .ok (.ireturn, 1) := by decide +kernel
theorem dX7_sheet_0 : decode cX7_sheet 0 = .ok (.iload_n 1, 1) := by decide +kernel
theorem dX7_sheet_1 : decode cX7_sheet 1 = .ok (.invokestatic 245, 3) := by decide +kernel
theorem dX7_sheet_4 : decode cX7_sheet 4 = .ok (.ifCond .eq 23, 3) := by decide +kernel
theorem dX7_sheet_7 : decode cX7_sheet 7 = .ok (.iload_n 2, 1) := by decide +kernel
theorem dX7_sheet_8 : decode cX7_sheet 8 = .ok (.iconst (-1), 1) := by decide +kernel
theorem dX7_sheet_9 : decode cX7_sheet 9 = .ok (.iconst 2, 1) := by decide +kernel
theorem dX7_sheet_10 : decode cX7_sheet 10 = .ok (.invokestatic 86, 3) := by decide +kernel
theorem dX7_sheet_13 : decode cX7_sheet 13 = .ok (.ifCond .eq 14, 3) := by decide +kernel
theorem dX7_sheet_16 : decode cX7_sheet 16 = .ok (.iload_n 2, 1) := by decide +kernel
theorem dX7_sheet_17 : decode cX7_sheet 17 = .ok (.iconst (-1), 1) := by decide +kernel
theorem dX7_sheet_18 : decode cX7_sheet 18 = .ok (.if_icmp .eq 12, 3) := by decide +kernel
theorem dX7_sheet_21 : decode cX7_sheet 21 = .ok (.iload_n 3, 1) := by decide +kernel
theorem dX7_sheet_22 : decode cX7_sheet 22 = .ok (.bipush 40, 2) := by decide +kernel
theorem dX7_sheet_24 : decode cX7_sheet 24 = .ok (.if_icmp .le 6, 3) := by decide +kernel
theorem dX7_sheet_27 : decode cX7_sheet 27 = .ok (.bipush (-2), 2) := by decide +kernel
theorem dX7_sheet_29 : decode cX7_sheet 29 = .ok (.ireturn, 1) := by decide +kernel
theorem dX7_sheet_30 : decode cX7_sheet 30 = .ok (.iload_n 2, 1) := by decide +kernel
theorem dX7_sheet_31 : decode cX7_sheet 31 = .ok (.iconst (-1), 1) := by decide +kernel
theorem dX7_sheet_32 : decode cX7_sheet 32 = .ok (.if_icmp .eq 10, 3) := by decide +kernel
theorem dX7_sheet_35 : decode cX7_sheet 35 = .ok (.iload_n 3, 1) := by decide +kernel
theorem dX7_sheet_36 : decode cX7_sheet 36 = .ok (.ifCond .ge 6, 3) := by decide +kernel
theorem dX7_sheet_39 : decode cX7_sheet 39 = .ok (.bipush (-14), 2) := by decide +kernel
theorem dX7_sheet_41 : decode cX7_sheet 41 = .ok (.ireturn, 1) := by decide +kernel
theorem dX7_sheet_42 : decode cX7_sheet 42 = .ok (.aload_n 0, 1) := by decide +kernel
theorem dX7_sheet_43 : decode cX7_sheet 43 = .ok (.getfield 58, 3) := by decide +kernel
theorem dX7_sheet_46 : decode cX7_sheet 46 = .ok (.iload_n 1, 1) := by decide +kernel
theorem dX7_sheet_47 : decode cX7_sheet 47 = .ok (.iload_n 2, 1) := by decide +kernel
theorem dX7_sheet_48 : decode cX7_sheet 48 = .ok (.iastore, 1) := by decide +kernel
theorem dX7_sheet_49 : decode cX7_sheet 49 = .ok (.aload_n 0, 1) := by decide +kernel
theorem dX7_sheet_50 : decode cX7_sheet 50 = .ok (.getfield 61, 3) := by decide +kernel
theorem dX7_sheet_53 : decode cX7_sheet 53 = .ok (.iload_n 1, 1) := by decide +kernel
theorem dX7_sheet_54 : decode cX7_sheet 54 = .ok (.iload_n 2, 1) := by decide +kernel
theorem dX7_sheet_55 : decode cX7_sheet 55 = .ok (.iconst (-1), 1) := by decide +kernel
theorem dX7_sheet_56 : decode cX7_sheet 56 = .ok (.if_icmp .ne 7, 3) := by decide +kernel
theorem dX7_sheet_59 : decode cX7_sheet 59 = .ok (.iconst 0, 1) := by decide +kernel
theorem dX7_sheet_60 : decode cX7_sheet 60 = .ok (.goto 4, 3) := by decide +kernel
theorem dX7_sheet_63 : decode cX7_sheet 63 = .ok (.iload_n 3, 1) := by decide +kernel
theorem dX7_sheet_64 : decode cX7_sheet 64 = .ok (.iastore, 1) := by decide +kernel
theorem dX7_sheet_65 : decode cX7_sheet 65 = .ok (.iconst 0, 1) := by decide +kernel
theorem dX7_sheet_66 : decode cX7_sheet 66 = .ok (.istore 4, 2) := by decide +kernel
theorem dX7_sheet_68 : decode cX7_sheet 68 = .ok (.iload 4, 2) := by decide +kernel
theorem dX7_sheet_70 : decode cX7_sheet 70 = .ok (.bipush 40, 2) := by decide +kernel
theorem dX7_sheet_72 : decode cX7_sheet 72 = .ok (.if_icmp .ge 22, 3) := by decide +kernel
theorem dX7_sheet_75 : decode cX7_sheet 75 = .ok (.aload_n 0, 1) := by decide +kernel
theorem dX7_sheet_76 : decode cX7_sheet 76 = .ok (.getfield 64, 3) := by decide +kernel
theorem dX7_sheet_79 : decode cX7_sheet 79 = .ok (.bipush 40, 2) := by decide +kernel
theorem dX7_sheet_81 : decode cX7_sheet 81 = .ok (.iload_n 1, 1) := by decide +kernel
theorem dX7_sheet_82 : decode cX7_sheet 82 = .ok (.imul, 1) := by decide +kernel
theorem dX7_sheet_83 : decode cX7_sheet 83 = .ok (.iload 4, 2) := by decide +kernel
theorem dX7_sheet_85 : decode cX7_sheet 85 = .ok (.iadd, 1) := by decide +kernel
theorem dX7_sheet_86 : decode cX7_sheet 86 = .ok (.iconst 0, 1) := by decide +kernel
theorem dX7_sheet_87 : decode cX7_sheet 87 = .ok (.iastore, 1) := by decide +kernel
theorem dX7_sheet_88 : decode cX7_sheet 88 = .ok (.iinc 4 1, 3) := by decide +kernel
theorem dX7_sheet_91 : decode cX7_sheet 91 = .ok (.goto (-23), 3) := by decide +kernel
theorem dX7_sheet_94 : decode cX7_sheet 94 = .ok (.iconst 1, 1) := by decide +kernel
theorem dX7_sheet_95 : decode cX7_sheet 95 = .ok (.ireturn, 1) := by decide +kernel
theorem dX7_cell_0 : decode cX7_cell 0 = .ok (.iload_n 1, 1) := by decide +kernel
theorem dX7_cell_1 : decode cX7_cell 1 = .ok (.invokestatic 245, 3) := by decide +kernel
theorem dX7_cell_4 : decode cX7_cell 4 = .ok (.ifCond .ne 6, 3) := by decide +kernel
theorem dX7_cell_7 : decode cX7_cell 7 = .ok (.bipush (-2), 2) := by decide +kernel
theorem dX7_cell_9 : decode cX7_cell 9 = .ok (.ireturn, 1) := by decide +kernel
theorem dX7_cell_10 : decode cX7_cell 10 = .ok (.aload_n 0, 1) := by decide +kernel
theorem dX7_cell_11 : decode cX7_cell 11 = .ok (.getfield 58, 3) := by decide +kernel
theorem dX7_cell_14 : decode cX7_cell 14 = .ok (.iload_n 1, 1) := by decide +kernel
theorem dX7_cell_15 : decode cX7_cell 15 = .ok (.iaload, 1) := by decide +kernel
theorem dX7_cell_16 : decode cX7_cell 16 = .ok (.iconst (-1), 1) := by decide +kernel
theorem dX7_cell_17 : decode cX7_cell 17 = .ok (.if_icmp .ne 6, 3) := by decide +kernel
theorem dX7_cell_20 : decode cX7_cell 20 = .ok (.bipush (-11), 2) := by decide +kernel
theorem dX7_cell_22 : decode cX7_cell 22 = .ok (.ireturn, 1) := by decide +kernel
theorem dX7_cell_23 : decode cX7_cell 23 = .ok (.iload_n 2, 1) := by decide +kernel
theorem dX7_cell_24 : decode cX7_cell 24 = .ok (.iconst 0, 1) := by decide +kernel
theorem dX7_cell_25 : decode cX7_cell 25 = .ok (.aload_n 0, 1) := by decide +kernel
theorem dX7_cell_26 : decode cX7_cell 26 = .ok (.getfield 61, 3) := by decide +kernel
theorem dX7_cell_29 : decode cX7_cell 29 = .ok (.iload_n 1, 1) := by decide +kernel
theorem dX7_cell_30 : decode cX7_cell 30 = .ok (.iaload, 1) := by decide +kernel
theorem dX7_cell_31 : decode cX7_cell 31 = .ok (.iconst 1, 1) := by decide +kernel
theorem dX7_cell_32 : decode cX7_cell 32 = .ok (.isub, 1) := by decide +kernel
theorem dX7_cell_33 : decode cX7_cell 33 = .ok (.invokestatic 86, 3) := by decide +kernel
theorem dX7_cell_36 : decode cX7_cell 36 = .ok (.ifCond .ne 6, 3) := by decide +kernel
theorem dX7_cell_39 : decode cX7_cell 39 = .ok (.bipush (-12), 2) := by decide +kernel
theorem dX7_cell_41 : decode cX7_cell 41 = .ok (.ireturn, 1) := by decide +kernel
theorem dX7_cell_42 : decode cX7_cell 42 = .ok (.aload_n 0, 1) := by decide +kernel
theorem dX7_cell_43 : decode cX7_cell 43 = .ok (.getfield 64, 3) := by decide +kernel
theorem dX7_cell_46 : decode cX7_cell 46 = .ok (.bipush 40, 2) := by decide +kernel
theorem dX7_cell_48 : decode cX7_cell 48 = .ok (.iload_n 1, 1) := by decide +kernel
theorem dX7_cell_49 : decode cX7_cell 49 = .ok (.imul, 1) := by decide +kernel
theorem dX7_cell_50 : decode cX7_cell 50 = .ok (.iload_n 2, 1) := by decide +kernel
theorem dX7_cell_51 : decode cX7_cell 51 = .ok (.iadd, 1) := by decide +kernel
theorem dX7_cell_52 : decode cX7_cell 52 = .ok (.aload_n 0, 1) := by decide +kernel
theorem dX7_cell_53 : decode cX7_cell 53 = .ok (.getfield 58, 3) := by decide +kernel
theorem dX7_cell_56 : decode cX7_cell 56 = .ok (.iload_n 1, 1) := by decide +kernel
theorem dX7_cell_57 : decode cX7_cell 57 = .ok (.iaload, 1) := by decide +kernel
theorem dX7_cell_58 : decode cX7_cell 58 = .ok (.ifCond .ne 8, 3) := by decide +kernel
theorem dX7_cell_61 : decode cX7_cell 61 = .ok (.iload_n 3, 1) := by decide +kernel
theorem dX7_cell_62 : decode cX7_cell 62 = .ok (.i2b, 1) := by decide +kernel
theorem dX7_cell_63 : decode cX7_cell 63 = .ok (.goto 19, 3) := by decide +kernel
theorem dX7_cell_66 : decode cX7_cell 66 = .ok (.aload_n 0, 1) := by decide +kernel
theorem dX7_cell_67 : decode cX7_cell 67 = .ok (.getfield 58, 3) := by decide +kernel
theorem dX7_cell_70 : decode cX7_cell 70 = .ok (.iload_n 1, 1) := by decide +kernel
theorem dX7_cell_71 : decode cX7_cell 71 = .ok (.iaload, 1) := by decide +kernel
theorem dX7_cell_72 : decode cX7_cell 72 = .ok (.iconst 1, 1) := by decide +kernel
theorem dX7_cell_73 : decode cX7_cell 73 = .ok (.if_icmp .ne 8, 3) := by decide +kernel
theorem dX7_cell_76 : decode cX7_cell 76 = .ok (.iload_n 3, 1) := by decide +kernel
theorem dX7_cell_77 : decode cX7_cell 77 = .ok (.i2s, 1) := by decide +kernel
theorem dX7_cell_78 : decode cX7_cell 78 = .ok (.goto 4, 3) := by decide +kernel
theorem dX7_cell_81 : decode cX7_cell 81 = .ok (.iload_n 3, 1) := by decide +kernel
theorem dX7_cell_82 : decode cX7_cell 82 = .ok (.iastore, 1) := by decide +kernel
theorem dX7_cell_83 : decode cX7_cell 83 = .ok (.iconst 1, 1) := by decide +kernel
theorem dX7_cell_84 : decode cX7_cell 84 = .ok (.ireturn, 1) := by decide +kernel
theorem dX7_copy_0 : decode cX7_copy 0 = .ok (.iload_n 1, 1) := by decide +kernel
theorem dX7_copy_1 : decode cX7_copy 1 = .ok (.invokestatic 245, 3) := by decide +kernel
theorem dX7_copy_4 : decode cX7_copy 4 = .ok (.ifCond .eq 10, 3) := by decide +kernel
theorem dX7_copy_7 : decode cX7_copy 7 = .ok (.iload_n 3, 1) := by decide +kernel
theorem dX7_copy_8 : decode cX7_copy 8 = .ok (.invokestatic 245, 3) := by decide +kernel
theorem dX7_copy_11 : decode cX7_copy 11 = .ok (.ifCond .ne 6, 3) := by decide +kernel
theorem dX7_copy_14 : decode cX7_copy 14 = .ok (.bipush (-2), 2) := by decide +kernel
theorem dX7_copy_16 : decode cX7_copy 16 = .ok (.ireturn, 1) := by decide +kernel
theorem dX7_copy_17 : decode cX7_copy 17 = .ok (.aload_n 0, 1) := by decide +kernel
theorem dX7_copy_18 : decode cX7_copy 18 = .ok (.getfield 58, 3) := by decide +kernel
theorem dX7_copy_21 : decode cX7_copy 21 = .ok (.iload_n 1, 1) := by decide +kernel
theorem dX7_copy_22 : decode cX7_copy 22 = .ok (.iaload, 1) := by decide +kernel
theorem dX7_copy_23 : decode cX7_copy 23 = .ok (.iconst (-1), 1) := by decide +kernel
theorem dX7_copy_24 : decode cX7_copy 24 = .ok (.if_icmp .eq 13, 3) := by decide +kernel
theorem dX7_copy_27 : decode cX7_copy 27 = .ok (.aload_n 0, 1) := by decide +kernel
theorem dX7_copy_28 : decode cX7_copy 28 = .ok (.getfield 58, 3) := by decide +kernel
theorem dX7_copy_31 : decode cX7_copy 31 = .ok (.iload_n 3, 1) := by decide +kernel
theorem dX7_copy_32 : decode cX7_copy 32 = .ok (.iaload, 1) := by decide +kernel
theorem dX7_copy_33 : decode cX7_copy 33 = .ok (.iconst (-1), 1) := by decide +kernel
theorem dX7_copy_34 : decode cX7_copy 34 = .ok (.if_icmp .ne 6, 3) := by decide +kernel
theorem dX7_copy_37 : decode cX7_copy 37 = .ok (.bipush (-11), 2) := by decide +kernel
theorem dX7_copy_39 : decode cX7_copy 39 = .ok (.ireturn, 1) := by decide +kernel
theorem dX7_copy_40 : decode cX7_copy 40 = .ok (.aload_n 0, 1) := by decide +kernel
theorem dX7_copy_41 : decode cX7_copy 41 = .ok (.getfield 58, 3) := by decide +kernel
theorem dX7_copy_44 : decode cX7_copy 44 = .ok (.iload_n 1, 1) := by decide +kernel
theorem dX7_copy_45 : decode cX7_copy 45 = .ok (.iaload, 1) := by decide +kernel
theorem dX7_copy_46 : decode cX7_copy 46 = .ok (.aload_n 0, 1) := by decide +kernel
theorem dX7_copy_47 : decode cX7_copy 47 = .ok (.getfield 58, 3) := by decide +kernel
theorem dX7_copy_50 : decode cX7_copy 50 = .ok (.iload_n 3, 1) := by decide +kernel
theorem dX7_copy_51 : decode cX7_copy 51 = .ok (.iaload, 1) := by decide +kernel
theorem dX7_copy_52 : decode cX7_copy 52 = .ok (.if_icmp .eq 6, 3) := by decide +kernel
theorem dX7_copy_55 : decode cX7_copy 55 = .ok (.bipush (-13), 2) := by decide +kernel
theorem dX7_copy_57 : decode cX7_copy 57 = .ok (.ireturn, 1) := by decide +kernel
theorem dX7_copy_58 : decode cX7_copy 58 = .ok (.iload 5, 2) := by decide +kernel
theorem dX7_copy_60 : decode cX7_copy 60 = .ok (.ifCond .lt 39, 3) := by decide +kernel
theorem dX7_copy_63 : decode cX7_copy 63 = .ok (.iload_n 2, 1) := by decide +kernel
theorem dX7_copy_64 : decode cX7_copy 64 = .ok (.ifCond .lt 35, 3) := by decide +kernel
theorem dX7_copy_67 : decode cX7_copy 67 = .ok (.iload 4, 2) := by decide +kernel
theorem dX7_copy_69 : decode cX7_copy 69 = .ok (.ifCond .lt 30, 3) := by decide +kernel
theorem dX7_copy_72 : decode cX7_copy 72 = .ok (.iload 5, 2) := by decide +kernel
theorem dX7_copy_74 : decode cX7_copy 74 = .ok (.aload_n 0, 1) := by decide +kernel
theorem dX7_copy_75 : decode cX7_copy 75 = .ok (.getfield 61, 3) := by decide +kernel
theorem dX7_copy_78 : decode cX7_copy 78 = .ok (.iload_n 1, 1) := by decide +kernel
theorem dX7_copy_79 : decode cX7_copy 79 = .ok (.iaload, 1) := by decide +kernel
theorem dX7_copy_80 : decode cX7_copy 80 = .ok (.iload_n 2, 1) := by decide +kernel
theorem dX7_copy_81 : decode cX7_copy 81 = .ok (.isub, 1) := by decide +kernel
theorem dX7_copy_82 : decode cX7_copy 82 = .ok (.if_icmp .gt 17, 3) := by decide +kernel
theorem dX7_copy_85 : decode cX7_copy 85 = .ok (.iload 5, 2) := by decide +kernel
theorem dX7_copy_87 : decode cX7_copy 87 = .ok (.aload_n 0, 1) := by decide +kernel
theorem dX7_copy_88 : decode cX7_copy 88 = .ok (.getfield 61, 3) := by decide +kernel
theorem dX7_copy_91 : decode cX7_copy 91 = .ok (.iload_n 3, 1) := by decide +kernel
theorem dX7_copy_92 : decode cX7_copy 92 = .ok (.iaload, 1) := by decide +kernel
theorem dX7_copy_93 : decode cX7_copy 93 = .ok (.iload 4, 2) := by decide +kernel
theorem dX7_copy_95 : decode cX7_copy 95 = .ok (.isub, 1) := by decide +kernel
theorem dX7_copy_96 : decode cX7_copy 96 = .ok (.if_icmp .le 6, 3) := by decide +kernel
theorem dX7_copy_99 : decode cX7_copy 99 = .ok (.bipush (-12), 2) := by decide +kernel
theorem dX7_copy_101 : decode cX7_copy 101 = .ok (.ireturn, 1) := by decide +kernel
theorem dX7_copy_102 : decode cX7_copy 102 = .ok (.iconst 0, 1) := by decide +kernel
theorem dX7_copy_103 : decode cX7_copy 103 = .ok (.istore 6, 2) := by decide +kernel
theorem dX7_copy_105 : decode cX7_copy 105 = .ok (.iload 6, 2) := by decide +kernel
theorem dX7_copy_107 : decode cX7_copy 107 = .ok (.iload 5, 2) := by decide +kernel
theorem dX7_copy_109 : decode cX7_copy 109 = .ok (.if_icmp .ge 30, 3) := by decide +kernel
theorem dX7_copy_112 : decode cX7_copy 112 = .ok (.aload_n 0, 1) := by decide +kernel
theorem dX7_copy_113 : decode cX7_copy 113 = .ok (.getfield 67, 3) := by decide +kernel
theorem dX7_copy_116 : decode cX7_copy 116 = .ok (.iload 6, 2) := by decide +kernel
theorem dX7_copy_118 : decode cX7_copy 118 = .ok (.aload_n 0, 1) := by decide +kernel
theorem dX7_copy_119 : decode cX7_copy 119 = .ok (.getfield 64, 3) := by decide +kernel
theorem dX7_copy_122 : decode cX7_copy 122 = .ok (.bipush 40, 2) := by decide +kernel
theorem dX7_copy_124 : decode cX7_copy 124 = .ok (.iload_n 1, 1) := by decide +kernel
theorem dX7_copy_125 : decode cX7_copy 125 = .ok (.imul, 1) := by decide +kernel
theorem dX7_copy_126 : decode cX7_copy 126 = .ok (.iload_n 2, 1) := by decide +kernel
theorem dX7_copy_127 : decode cX7_copy 127 = .ok (.iadd, 1) := by decide +kernel
theorem dX7_copy_128 : decode cX7_copy 128 = .ok (.iload 6, 2) := by decide +kernel
theorem dX7_copy_130 : decode cX7_copy 130 = .ok (.iadd, 1) := by decide +kernel
theorem dX7_copy_131 : decode cX7_copy 131 = .ok (.iaload, 1) := by decide +kernel
theorem dX7_copy_132 : decode cX7_copy 132 = .ok (.iastore, 1) := by decide +kernel
theorem dX7_copy_133 : decode cX7_copy 133 = .ok (.iinc 6 1, 3) := by decide +kernel
theorem dX7_copy_136 : decode cX7_copy 136 = .ok (.goto (-31), 3) := by decide +kernel
theorem dX7_copy_139 : decode cX7_copy 139 = .ok (.iconst 0, 1) := by decide +kernel
theorem dX7_copy_140 : decode cX7_copy 140 = .ok (.istore 6, 2) := by decide +kernel
theorem dX7_copy_142 : decode cX7_copy 142 = .ok (.iload 6, 2) := by decide +kernel
theorem dX7_copy_144 : decode cX7_copy 144 = .ok (.iload 5, 2) := by decide +kernel
theorem dX7_copy_146 : decode cX7_copy 146 = .ok (.if_icmp .ge 31, 3) := by decide +kernel
theorem dX7_copy_149 : decode cX7_copy 149 = .ok (.aload_n 0, 1) := by decide +kernel
theorem dX7_copy_150 : decode cX7_copy 150 = .ok (.getfield 64, 3) := by decide +kernel
theorem dX7_copy_153 : decode cX7_copy 153 = .ok (.bipush 40, 2) := by decide +kernel
theorem dX7_copy_155 : decode cX7_copy 155 = .ok (.iload_n 3, 1) := by decide +kernel
theorem dX7_copy_156 : decode cX7_copy 156 = .ok (.imul, 1) := by decide +kernel
theorem dX7_copy_157 : decode cX7_copy 157 = .ok (.iload 4, 2) := by decide +kernel
theorem dX7_copy_159 : decode cX7_copy 159 = .ok (.iadd, 1) := by decide +kernel
theorem dX7_copy_160 : decode cX7_copy 160 = .ok (.iload 6, 2) := by decide +kernel
theorem dX7_copy_162 : decode cX7_copy 162 = .ok (.iadd, 1) := by decide +kernel
theorem dX7_copy_163 : decode cX7_copy 163 = .ok (.aload_n 0, 1) := by decide +kernel
theorem dX7_copy_164 : decode cX7_copy 164 = .ok (.getfield 67, 3) := by decide +kernel
theorem dX7_copy_167 : decode cX7_copy 167 = .ok (.iload 6, 2) := by decide +kernel
theorem dX7_copy_169 : decode cX7_copy 169 = .ok (.iaload, 1) := by decide +kernel
theorem dX7_copy_170 : decode cX7_copy 170 = .ok (.iastore, 1) := by decide +kernel
theorem dX7_copy_171 : decode cX7_copy 171 = .ok (.iinc 6 1, 3) := by decide +kernel
theorem dX7_copy_174 : decode cX7_copy 174 = .ok (.goto (-32), 3) := by decide +kernel
theorem dX7_copy_177 : decode cX7_copy 177 = .ok (.iload 5, 2) := by decide +kernel
theorem dX7_copy_179 : decode cX7_copy 179 = .ok (.ireturn, 1) := by decide +kernel
theorem dX7_finds_0 : decode cX7_finds 0 = .ok (.iload_n 1, 1) := by decide +kernel
theorem dX7_finds_1 : decode cX7_finds 1 = .ok (.invokestatic 245, 3) := by decide +kernel
theorem dX7_finds_4 : decode cX7_finds 4 = .ok (.ifCond .eq 23, 3) := by decide +kernel
theorem dX7_finds_7 : decode cX7_finds 7 = .ok (.iload_n 2, 1) := by decide +kernel
theorem dX7_finds_8 : decode cX7_finds 8 = .ok (.iconst 0, 1) := by decide +kernel
theorem dX7_finds_9 : decode cX7_finds 9 = .ok (.iconst 2, 1) := by decide +kernel
theorem dX7_finds_10 : decode cX7_finds 10 = .ok (.invokestatic 86, 3) := by decide +kernel
theorem dX7_finds_13 : decode cX7_finds 13 = .ok (.ifCond .eq 14, 3) := by decide +kernel
theorem dX7_finds_16 : decode cX7_finds 16 = .ok (.iload 4, 2) := by decide +kernel
theorem dX7_finds_18 : decode cX7_finds 18 = .ok (.iconst 0, 1) := by decide +kernel
theorem dX7_finds_19 : decode cX7_finds 19 = .ok (.bipush 8, 2) := by decide +kernel
theorem dX7_finds_21 : decode cX7_finds 21 = .ok (.invokestatic 86, 3) := by decide +kernel
theorem dX7_finds_24 : decode cX7_finds 24 = .ok (.ifCond .ne 6, 3) := by decide +kernel
theorem dX7_finds_27 : decode cX7_finds 27 = .ok (.bipush (-2), 2) := by decide +kernel
theorem dX7_finds_29 : decode cX7_finds 29 = .ok (.ireturn, 1) := by decide +kernel
theorem dX7_finds_30 : decode cX7_finds 30 = .ok (.aload_n 0, 1) := by decide +kernel
theorem dX7_finds_31 : decode cX7_finds 31 = .ok (.getfield 58, 3) := by decide +kernel
theorem dX7_finds_34 : decode cX7_finds 34 = .ok (.iload_n 1, 1) := by decide +kernel
theorem dX7_finds_35 : decode cX7_finds 35 = .ok (.iaload, 1) := by decide +kernel
theorem dX7_finds_36 : decode cX7_finds 36 = .ok (.iconst (-1), 1) := by decide +kernel
theorem dX7_finds_37 : decode cX7_finds 37 = .ok (.if_icmp .ne 6, 3) := by decide +kernel
theorem dX7_finds_40 : decode cX7_finds 40 = .ok (.bipush (-11), 2) := by decide +kernel
theorem dX7_finds_42 : decode cX7_finds 42 = .ok (.ireturn, 1) := by decide +kernel
theorem dX7_finds_43 : decode cX7_finds 43 = .ok (.aload_n 0, 1) := by decide +kernel
theorem dX7_finds_44 : decode cX7_finds 44 = .ok (.getfield 58, 3) := by decide +kernel
theorem dX7_finds_47 : decode cX7_finds 47 = .ok (.iload_n 1, 1) := by decide +kernel
theorem dX7_finds_48 : decode cX7_finds 48 = .ok (.iaload, 1) := by decide +kernel
theorem dX7_finds_49 : decode cX7_finds 49 = .ok (.iload_n 2, 1) := by decide +kernel
theorem dX7_finds_50 : decode cX7_finds 50 = .ok (.if_icmp .eq 6, 3) := by decide +kernel
theorem dX7_finds_53 : decode cX7_finds 53 = .ok (.bipush (-13), 2) := by decide +kernel
theorem dX7_finds_55 : decode cX7_finds 55 = .ok (.ireturn, 1) := by decide +kernel
theorem dX7_finds_56 : decode cX7_finds 56 = .ok (.iconst 0, 1) := by decide +kernel
theorem dX7_finds_57 : decode cX7_finds 57 = .ok (.istore 5, 2) := by decide +kernel
theorem dX7_finds_59 : decode cX7_finds 59 = .ok (.iconst 0, 1) := by decide +kernel
theorem dX7_finds_60 : decode cX7_finds 60 = .ok (.istore 6, 2) := by decide +kernel
theorem dX7_finds_62 : decode cX7_finds 62 = .ok (.iload 6, 2) := by decide +kernel
theorem dX7_finds_64 : decode cX7_finds 64 = .ok (.iload 4, 2) := by decide +kernel
theorem dX7_finds_66 : decode cX7_finds 66 = .ok (.if_icmp .ge 97, 3) := by decide +kernel
theorem dX7_finds_69 : decode cX7_finds 69 = .ok (.iload_n 3, 1) := by decide +kernel
theorem dX7_finds_70 : decode cX7_finds 70 = .ok (.iconst 4, 1) := by decide +kernel
theorem dX7_finds_71 : decode cX7_finds 71 = .ok (.iload 6, 2) := by decide +kernel
theorem dX7_finds_73 : decode cX7_finds 73 = .ok (.imul, 1) := by decide +kernel
theorem dX7_finds_74 : decode cX7_finds 74 = .ok (.iadd, 1) := by decide +kernel
theorem dX7_finds_75 : decode cX7_finds 75 = .ok (.istore 7, 2) := by decide +kernel
theorem dX7_finds_77 : decode cX7_finds 77 = .ok (.iload_n 3, 1) := by decide +kernel
theorem dX7_finds_78 : decode cX7_finds 78 = .ok (.ifCond .lt 16, 3) := by decide +kernel
theorem dX7_finds_81 : decode cX7_finds 81 = .ok (.iload 7, 2) := by decide +kernel
theorem dX7_finds_83 : decode cX7_finds 83 = .ok (.aload_n 0, 1) := by decide +kernel
theorem dX7_finds_84 : decode cX7_finds 84 = .ok (.getfield 61, 3) := by decide +kernel
theorem dX7_finds_87 : decode cX7_finds 87 = .ok (.iload_n 1, 1) := by decide +kernel
theorem dX7_finds_88 : decode cX7_finds 88 = .ok (.iaload, 1) := by decide +kernel
theorem dX7_finds_89 : decode cX7_finds 89 = .ok (.iconst 4, 1) := by decide +kernel
theorem dX7_finds_90 : decode cX7_finds 90 = .ok (.isub, 1) := by decide +kernel
theorem dX7_finds_91 : decode cX7_finds 91 = .ok (.if_icmp .le 6, 3) := by decide +kernel
theorem dX7_finds_94 : decode cX7_finds 94 = .ok (.bipush (-12), 2) := by decide +kernel
theorem dX7_finds_96 : decode cX7_finds 96 = .ok (.ireturn, 1) := by decide +kernel
theorem dX7_finds_97 : decode cX7_finds 97 = .ok (.bipush 40, 2) := by decide +kernel
theorem dX7_finds_99 : decode cX7_finds 99 = .ok (.iload_n 1, 1) := by decide +kernel
theorem dX7_finds_100 : decode cX7_finds 100 = .ok (.imul, 1) := by decide +kernel
theorem dX7_finds_101 : decode cX7_finds 101 = .ok (.iload 7, 2) := by decide +kernel
theorem dX7_finds_103 : decode cX7_finds 103 = .ok (.iadd, 1) := by decide +kernel
theorem dX7_finds_104 : decode cX7_finds 104 = .ok (.istore 8, 2) := by decide +kernel
theorem dX7_finds_106 : decode cX7_finds 106 = .ok (.iload 5, 2) := by decide +kernel
theorem dX7_finds_108 : decode cX7_finds 108 = .ok (.aload_n 0, 1) := by decide +kernel
theorem dX7_finds_109 : decode cX7_finds 109 = .ok (.aload_n 0, 1) := by decide +kernel
theorem dX7_finds_110 : decode cX7_finds 110 = .ok (.getfield 64, 3) := by decide +kernel
theorem dX7_finds_113 : decode cX7_finds 113 = .ok (.iload 8, 2) := by decide +kernel
theorem dX7_finds_115 : decode cX7_finds 115 = .ok (.iaload, 1) := by decide +kernel
theorem dX7_finds_116 : decode cX7_finds 116 = .ok (.aload_n 0, 1) := by decide +kernel
theorem dX7_finds_117 : decode cX7_finds 117 = .ok (.getfield 64, 3) := by decide +kernel
theorem dX7_finds_120 : decode cX7_finds 120 = .ok (.iload 8, 2) := by decide +kernel
theorem dX7_finds_122 : decode cX7_finds 122 = .ok (.iconst 1, 1) := by decide +kernel
theorem dX7_finds_123 : decode cX7_finds 123 = .ok (.iadd, 1) := by decide +kernel
theorem dX7_finds_124 : decode cX7_finds 124 = .ok (.iaload, 1) := by decide +kernel
theorem dX7_finds_125 : decode cX7_finds 125 = .ok (.aload_n 0, 1) := by decide +kernel
theorem dX7_finds_126 : decode cX7_finds 126 = .ok (.getfield 64, 3) := by decide +kernel
theorem dX7_finds_129 : decode cX7_finds 129 = .ok (.iload 8, 2) := by decide +kernel
theorem dX7_finds_131 : decode cX7_finds 131 = .ok (.iconst 2, 1) := by decide +kernel
theorem dX7_finds_132 : decode cX7_finds 132 = .ok (.iadd, 1) := by decide +kernel
theorem dX7_finds_133 : decode cX7_finds 133 = .ok (.iaload, 1) := by decide +kernel
theorem dX7_finds_134 : decode cX7_finds 134 = .ok (.aload_n 0, 1) := by decide +kernel
theorem dX7_finds_135 : decode cX7_finds 135 = .ok (.getfield 64, 3) := by decide +kernel
theorem dX7_finds_138 : decode cX7_finds 138 = .ok (.iload 8, 2) := by decide +kernel
theorem dX7_finds_140 : decode cX7_finds 140 = .ok (.iconst 3, 1) := by decide +kernel
theorem dX7_finds_141 : decode cX7_finds 141 = .ok (.iadd, 1) := by decide +kernel
theorem dX7_finds_142 : decode cX7_finds 142 = .ok (.iaload, 1) := by decide +kernel
theorem dX7_finds_143 : decode cX7_finds 143 = .ok (.invokevirtual 279, 3) := by decide +kernel
theorem dX7_finds_146 : decode cX7_finds 146 = .ok (.ifCond .lt 7, 3) := by decide +kernel
theorem dX7_finds_149 : decode cX7_finds 149 = .ok (.iconst 1, 1) := by decide +kernel
theorem dX7_finds_150 : decode cX7_finds 150 = .ok (.goto 4, 3) := by decide +kernel
theorem dX7_finds_153 : decode cX7_finds 153 = .ok (.iconst 0, 1) := by decide +kernel
theorem dX7_finds_154 : decode cX7_finds 154 = .ok (.iadd, 1) := by decide +kernel
theorem dX7_finds_155 : decode cX7_finds 155 = .ok (.istore 5, 2) := by decide +kernel
theorem dX7_finds_157 : decode cX7_finds 157 = .ok (.iinc 6 1, 3) := by decide +kernel
theorem dX7_finds_160 : decode cX7_finds 160 = .ok (.goto (-98), 3) := by decide +kernel
theorem dX7_finds_163 : decode cX7_finds 163 = .ok (.iload 5, 2) := by decide +kernel
theorem dX7_finds_165 : decode cX7_finds 165 = .ok (.ireturn, 1) := by decide +kernel
theorem dX7_taken_0 : decode cX7_taken 0 = .ok (.iload_n 2, 1) := by decide +kernel
theorem dX7_taken_1 : decode cX7_taken 1 = .ok (.iconst 0, 1) := by decide +kernel
theorem dX7_taken_2 : decode cX7_taken 2 = .ok (.iconst 5, 1) := by decide +kernel
theorem dX7_taken_3 : decode cX7_taken 3 = .ok (.invokestatic 86, 3) := by decide +kernel
theorem dX7_taken_6 : decode cX7_taken 6 = .ok (.ifCond .ne 6, 3) := by decide +kernel
theorem dX7_taken_9 : decode cX7_taken 9 = .ok (.bipush (-2), 2) := by decide +kernel
theorem dX7_taken_11 : decode cX7_taken 11 = .ok (.ireturn, 1) := by decide +kernel
theorem dX7_taken_12 : decode cX7_taken 12 = .ok (.aload_n 0, 1) := by decide +kernel
theorem dX7_taken_13 : decode cX7_taken 13 = .ok (.iload_n 1, 1) := by decide +kernel
theorem dX7_taken_14 : decode cX7_taken 14 = .ok (.invokevirtual 94, 3) := by decide +kernel
theorem dX7_taken_17 : decode cX7_taken 17 = .ok (.ifCond .ne 6, 3) := by decide +kernel
theorem dX7_taken_20 : decode cX7_taken 20 = .ok (.bipush (-11), 2) := by decide +kernel
theorem dX7_taken_22 : decode cX7_taken 22 = .ok (.ireturn, 1) := by decide +kernel
theorem dX7_taken_23 : decode cX7_taken 23 = .ok (.aload_n 0, 1) := by decide +kernel
theorem dX7_taken_24 : decode cX7_taken 24 = .ok (.iload_n 1, 1) := by decide +kernel
theorem dX7_taken_25 : decode cX7_taken 25 = .ok (.iconst 0, 1) := by decide +kernel
theorem dX7_taken_26 : decode cX7_taken 26 = .ok (.invokevirtual 108, 3) := by decide +kernel
theorem dX7_taken_29 : decode cX7_taken 29 = .ok (.istore_n 3, 1) := by decide +kernel
theorem dX7_taken_30 : decode cX7_taken 30 = .ok (.iload_n 3, 1) := by decide +kernel
theorem dX7_taken_31 : decode cX7_taken 31 = .ok (.iconst (-1), 1) := by decide +kernel
theorem dX7_taken_32 : decode cX7_taken 32 = .ok (.if_icmp .eq 18, 3) := by decide +kernel
theorem dX7_taken_35 : decode cX7_taken 35 = .ok (.iload_n 3, 1) := by decide +kernel
theorem dX7_taken_36 : decode cX7_taken 36 = .ok (.iload_n 2, 1) := by decide +kernel
theorem dX7_taken_37 : decode cX7_taken 37 = .ok (.if_icmp .eq 13, 3) := by decide +kernel
theorem dX7_taken_40 : decode cX7_taken 40 = .ok (.aload_n 0, 1) := by decide +kernel
theorem dX7_taken_41 : decode cX7_taken 41 = .ok (.getfield 70, 3) := by decide +kernel
theorem dX7_taken_44 : decode cX7_taken 44 = .ok (.iload_n 3, 1) := by decide +kernel
theorem dX7_taken_45 : decode cX7_taken 45 = .ok (.iaload, 1) := by decide +kernel
theorem dX7_taken_46 : decode cX7_taken 46 = .ok (.istore_n 3, 1) := by decide +kernel
theorem dX7_taken_47 : decode cX7_taken 47 = .ok (.goto (-17), 3) := by decide +kernel
theorem dX7_taken_50 : decode cX7_taken 50 = .ok (.iload_n 3, 1) := by decide +kernel
theorem dX7_taken_51 : decode cX7_taken 51 = .ok (.iconst (-1), 1) := by decide +kernel
theorem dX7_taken_52 : decode cX7_taken 52 = .ok (.if_icmp .ne 8, 3) := by decide +kernel
theorem dX7_taken_55 : decode cX7_taken 55 = .ok (.bipush (-13), 2) := by decide +kernel
theorem dX7_taken_57 : decode cX7_taken 57 = .ok (.goto 9, 3) := by decide +kernel
theorem dX7_taken_60 : decode cX7_taken 60 = .ok (.aload_n 0, 1) := by decide +kernel
theorem dX7_taken_61 : decode cX7_taken 61 = .ok (.iload_n 1, 1) := by decide +kernel
theorem dX7_taken_62 : decode cX7_taken 62 = .ok (.iconst 1, 1) := by decide +kernel
theorem dX7_taken_63 : decode cX7_taken 63 = .ok (.invokevirtual 108, 3) := by decide +kernel
theorem dX7_taken_66 : decode cX7_taken 66 = .ok (.ireturn, 1) := by decide +kernel
theorem dX7_otherwise_0 : decode cX7_otherwise 0 = .ok (.aload_n 0, 1) := by decide +kernel
theorem dX7_otherwise_1 : decode cX7_otherwise 1 = .ok (.aload_n 0, 1) := by decide +kernel
theorem dX7_otherwise_2 : decode cX7_otherwise 2 = .ok (.getfield 16, 3) := by decide +kernel
theorem dX7_otherwise_5 : decode cX7_otherwise 5 = .ok (.invokevirtual 223, 3) := by decide +kernel
theorem dX7_otherwise_8 : decode cX7_otherwise 8 = .ok (.iconst (-1), 1) := by decide +kernel
theorem dX7_otherwise_9 : decode cX7_otherwise 9 = .ok (.istore_n 3, 1) := by decide +kernel
theorem dX7_otherwise_10 : decode cX7_otherwise 10 = .ok (.iconst 0, 1) := by decide +kernel
theorem dX7_otherwise_11 : decode cX7_otherwise 11 = .ok (.istore 4, 2) := by decide +kernel
theorem dX7_otherwise_13 : decode cX7_otherwise 13 = .ok (.iload 4, 2) := by decide +kernel
theorem dX7_otherwise_15 : decode cX7_otherwise 15 = .ok (.aload_n 0, 1) := by decide +kernel
theorem dX7_otherwise_16 : decode cX7_otherwise 16 = .ok (.getfield 61, 3) := by decide +kernel
theorem dX7_otherwise_19 : decode cX7_otherwise 19 = .ok (.iload_n 1, 1) := by decide +kernel
theorem dX7_otherwise_20 : decode cX7_otherwise 20 = .ok (.iaload, 1) := by decide +kernel
theorem dX7_otherwise_21 : decode cX7_otherwise 21 = .ok (.if_icmp .ge 46, 3) := by decide +kernel
theorem dX7_otherwise_24 : decode cX7_otherwise 24 = .ok (.iload_n 3, 1) := by decide +kernel
theorem dX7_otherwise_25 : decode cX7_otherwise 25 = .ok (.iconst (-1), 1) := by decide +kernel
theorem dX7_otherwise_26 : decode cX7_otherwise 26 = .ok (.if_icmp .ne 41, 3) := by decide +kernel
theorem dX7_otherwise_29 : decode cX7_otherwise 29 = .ok (.aload_n 0, 1) := by decide +kernel
theorem dX7_otherwise_30 : decode cX7_otherwise 30 = .ok (.iload_n 2, 1) := by decide +kernel
theorem dX7_otherwise_31 : decode cX7_otherwise 31 = .ok (.iconst 2, 1) := by decide +kernel
theorem dX7_otherwise_32 : decode cX7_otherwise 32 = .ok (.invokevirtual 108, 3) := by decide +kernel
theorem dX7_otherwise_35 : decode cX7_otherwise 35 = .ok (.aload_n 0, 1) := by decide +kernel
theorem dX7_otherwise_36 : decode cX7_otherwise 36 = .ok (.getfield 64, 3) := by decide +kernel
theorem dX7_otherwise_39 : decode cX7_otherwise 39 = .ok (.bipush 40, 2) := by decide +kernel
theorem dX7_otherwise_41 : decode cX7_otherwise 41 = .ok (.iload_n 1, 1) := by decide +kernel
theorem dX7_otherwise_42 : decode cX7_otherwise 42 = .ok (.imul, 1) := by decide +kernel
theorem dX7_otherwise_43 : decode cX7_otherwise 43 = .ok (.iload 4, 2) := by decide +kernel
theorem dX7_otherwise_45 : decode cX7_otherwise 45 = .ok (.iadd, 1) := by decide +kernel
theorem dX7_otherwise_46 : decode cX7_otherwise 46 = .ok (.iaload, 1) := by decide +kernel
theorem dX7_otherwise_47 : decode cX7_otherwise 47 = .ok (.if_icmp .ne 7, 3) := by decide +kernel
theorem dX7_otherwise_50 : decode cX7_otherwise 50 = .ok (.iconst (-1), 1) := by decide +kernel
theorem dX7_otherwise_51 : decode cX7_otherwise 51 = .ok (.goto 5, 3) := by decide +kernel
theorem dX7_otherwise_54 : decode cX7_otherwise 54 = .ok (.iload 4, 2) := by decide +kernel
theorem dX7_otherwise_56 : decode cX7_otherwise 56 = .ok (.istore_n 3, 1) := by decide +kernel
theorem dX7_otherwise_57 : decode cX7_otherwise 57 = .ok (.aload_n 0, 1) := by decide +kernel
theorem dX7_otherwise_58 : decode cX7_otherwise 58 = .ok (.invokevirtual 217, 3) := by decide +kernel
theorem dX7_otherwise_61 : decode cX7_otherwise 61 = .ok (.iinc 4 1, 3) := by decide +kernel
theorem dX7_otherwise_64 : decode cX7_otherwise 64 = .ok (.goto (-51), 3) := by decide +kernel
theorem dX7_otherwise_67 : decode cX7_otherwise 67 = .ok (.aload_n 0, 1) := by decide +kernel
theorem dX7_otherwise_68 : decode cX7_otherwise 68 = .ok (.aload_n 0, 1) := by decide +kernel
theorem dX7_otherwise_69 : decode cX7_otherwise 69 = .ok (.getfield 16, 3) := by decide +kernel
theorem dX7_otherwise_72 : decode cX7_otherwise 72 = .ok (.invokevirtual 233, 3) := by decide +kernel
theorem dX7_otherwise_75 : decode cX7_otherwise 75 = .ok (.iload_n 3, 1) := by decide +kernel
theorem dX7_otherwise_76 : decode cX7_otherwise 76 = .ok (.ireturn, 1) := by decide +kernel
theorem dX7_fits_0 : decode cX7_fits 0 = .ok (.aload_n 0, 1) := by decide +kernel
theorem dX7_fits_1 : decode cX7_fits 1 = .ok (.getfield 7, 3) := by decide +kernel
theorem dX7_fits_4 : decode cX7_fits 4 = .ok (.iload_n 3, 1) := by decide +kernel
theorem dX7_fits_5 : decode cX7_fits 5 = .ok (.iaload, 1) := by decide +kernel
theorem dX7_fits_6 : decode cX7_fits 6 = .ok (.istore 5, 2) := by decide +kernel
theorem dX7_fits_8 : decode cX7_fits 8 = .ok (.iconst 0, 1) := by decide +kernel
theorem dX7_fits_9 : decode cX7_fits 9 = .ok (.istore 6, 2) := by decide +kernel
theorem dX7_fits_11 : decode cX7_fits 11 = .ok (.iconst 0, 1) := by decide +kernel
theorem dX7_fits_12 : decode cX7_fits 12 = .ok (.istore 7, 2) := by decide +kernel
theorem dX7_fits_14 : decode cX7_fits 14 = .ok (.iload 7, 2) := by decide +kernel
theorem dX7_fits_16 : decode cX7_fits 16 = .ok (.iload 4, 2) := by decide +kernel
theorem dX7_fits_18 : decode cX7_fits 18 = .ok (.if_icmp .gt 69, 3) := by decide +kernel
theorem dX7_fits_21 : decode cX7_fits 21 = .ok (.aload_n 0, 1) := by decide +kernel
theorem dX7_fits_22 : decode cX7_fits 22 = .ok (.getfield 7, 3) := by decide +kernel
theorem dX7_fits_25 : decode cX7_fits 25 = .ok (.iload_n 3, 1) := by decide +kernel
theorem dX7_fits_26 : decode cX7_fits 26 = .ok (.iload 7, 2) := by decide +kernel
theorem dX7_fits_28 : decode cX7_fits 28 = .ok (.iastore, 1) := by decide +kernel
theorem dX7_fits_29 : decode cX7_fits 29 = .ok (.aload_n 0, 1) := by decide +kernel
theorem dX7_fits_30 : decode cX7_fits 30 = .ok (.getfield 73, 3) := by decide +kernel
theorem dX7_fits_33 : decode cX7_fits 33 = .ok (.iload 7, 2) := by decide +kernel
theorem dX7_fits_35 : decode cX7_fits 35 = .ok (.aload_n 0, 1) := by decide +kernel
theorem dX7_fits_36 : decode cX7_fits 36 = .ok (.iload_n 1, 1) := by decide +kernel
theorem dX7_fits_37 : decode cX7_fits 37 = .ok (.iload_n 2, 1) := by decide +kernel
theorem dX7_fits_38 : decode cX7_fits 38 = .ok (.invokevirtual 283, 3) := by decide +kernel
theorem dX7_fits_41 : decode cX7_fits 41 = .ok (.iconst (-1), 1) := by decide +kernel
theorem dX7_fits_42 : decode cX7_fits 42 = .ok (.if_icmp .ne 7, 3) := by decide +kernel
theorem dX7_fits_45 : decode cX7_fits 45 = .ok (.iconst 1, 1) := by decide +kernel
theorem dX7_fits_46 : decode cX7_fits 46 = .ok (.goto 4, 3) := by decide +kernel
theorem dX7_fits_49 : decode cX7_fits 49 = .ok (.iconst 0, 1) := by decide +kernel
theorem dX7_fits_50 : decode cX7_fits 50 = .ok (.bastore, 1) := by decide +kernel
theorem dX7_fits_51 : decode cX7_fits 51 = .ok (.iload 6, 2) := by decide +kernel
theorem dX7_fits_53 : decode cX7_fits 53 = .ok (.iload 7, 2) := by decide +kernel
theorem dX7_fits_55 : decode cX7_fits 55 = .ok (.bipush 30, 2) := by decide +kernel
theorem dX7_fits_57 : decode cX7_fits 57 = .ok (.if_icmp .ge 20, 3) := by decide +kernel
theorem dX7_fits_60 : decode cX7_fits 60 = .ok (.aload_n 0, 1) := by decide +kernel
theorem dX7_fits_61 : decode cX7_fits 61 = .ok (.getfield 73, 3) := by decide +kernel
theorem dX7_fits_64 : decode cX7_fits 64 = .ok (.iload 7, 2) := by decide +kernel
theorem dX7_fits_66 : decode cX7_fits 66 = .ok (.baload, 1) := by decide +kernel
theorem dX7_fits_67 : decode cX7_fits 67 = .ok (.ifCond .eq 10, 3) := by decide +kernel
theorem dX7_fits_70 : decode cX7_fits 70 = .ok (.iconst 1, 1) := by decide +kernel
theorem dX7_fits_71 : decode cX7_fits 71 = .ok (.iload 7, 2) := by decide +kernel
theorem dX7_fits_73 : decode cX7_fits 73 = .ok (.ishl, 1) := by decide +kernel
theorem dX7_fits_74 : decode cX7_fits 74 = .ok (.goto 4, 3) := by decide +kernel
theorem dX7_fits_77 : decode cX7_fits 77 = .ok (.iconst 0, 1) := by decide +kernel
theorem dX7_fits_78 : decode cX7_fits 78 = .ok (.ior, 1) := by decide +kernel
theorem dX7_fits_79 : decode cX7_fits 79 = .ok (.istore 6, 2) := by decide +kernel
theorem dX7_fits_81 : decode cX7_fits 81 = .ok (.iinc 7 1, 3) := by decide +kernel
theorem dX7_fits_84 : decode cX7_fits 84 = .ok (.goto (-70), 3) := by decide +kernel
theorem dX7_fits_87 : decode cX7_fits 87 = .ok (.aload_n 0, 1) := by decide +kernel
theorem dX7_fits_88 : decode cX7_fits 88 = .ok (.getfield 7, 3) := by decide +kernel
theorem dX7_fits_91 : decode cX7_fits 91 = .ok (.iload_n 3, 1) := by decide +kernel
theorem dX7_fits_92 : decode cX7_fits 92 = .ok (.iload 5, 2) := by decide +kernel
theorem dX7_fits_94 : decode cX7_fits 94 = .ok (.iastore, 1) := by decide +kernel
theorem dX7_fits_95 : decode cX7_fits 95 = .ok (.iload 6, 2) := by decide +kernel
theorem dX7_fits_97 : decode cX7_fits 97 = .ok (.ireturn, 1) := by decide +kernel
theorem dX7_sharpsBy_0 : decode cX7_sharpsBy 0 = .ok (.aload_n 0, 1) := by decide +kernel
theorem dX7_sharpsBy_1 : decode cX7_sharpsBy 1 = .ok (.iload_n 1, 1) := by decide +kernel
theorem dX7_sharpsBy_2 : decode cX7_sharpsBy 2 = .ok (.iload_n 2, 1) := by decide +kernel
theorem dX7_sharpsBy_3 : decode cX7_sharpsBy 3 = .ok (.iconst 5, 1) := by decide +kernel
theorem dX7_sharpsBy_4 : decode cX7_sharpsBy 4 = .ok (.iload_n 2, 1) := by decide +kernel
theorem dX7_sharpsBy_5 : decode cX7_sharpsBy 5 = .ok (.imul, 1) := by decide +kernel
theorem dX7_sharpsBy_6 : decode cX7_sharpsBy 6 = .ok (.iconst 2, 1) := by decide +kernel
theorem dX7_sharpsBy_7 : decode cX7_sharpsBy 7 = .ok (.iadd, 1) := by decide +kernel
theorem dX7_sharpsBy_8 : decode cX7_sharpsBy 8 = .ok (.bipush 99, 2) := by decide +kernel
theorem dX7_sharpsBy_10 : decode cX7_sharpsBy 10 = .ok (.invokevirtual 286, 3) := by decide +kernel
theorem dX7_sharpsBy_13 : decode cX7_sharpsBy 13 = .ok (.pop, 1) := by decide +kernel
theorem dX7_sharpsBy_14 : decode cX7_sharpsBy 14 = .ok (.iconst 0, 1) := by decide +kernel
theorem dX7_sharpsBy_15 : decode cX7_sharpsBy 15 = .ok (.istore 4, 2) := by decide +kernel
theorem dX7_sharpsBy_17 : decode cX7_sharpsBy 17 = .ok (.iconst (-1), 1) := by decide +kernel
theorem dX7_sharpsBy_18 : decode cX7_sharpsBy 18 = .ok (.istore 5, 2) := by decide +kernel
theorem dX7_sharpsBy_20 : decode cX7_sharpsBy 20 = .ok (.bipush 99, 2) := by decide +kernel
theorem dX7_sharpsBy_22 : decode cX7_sharpsBy 22 = .ok (.istore 6, 2) := by decide +kernel
theorem dX7_sharpsBy_24 : decode cX7_sharpsBy 24 = .ok (.iload 6, 2) := by decide +kernel
theorem dX7_sharpsBy_26 : decode cX7_sharpsBy 26 = .ok (.ifCond .lt 48, 3) := by decide +kernel
theorem dX7_sharpsBy_29 : decode cX7_sharpsBy 29 = .ok (.iload 4, 2) := by decide +kernel
theorem dX7_sharpsBy_31 : decode cX7_sharpsBy 31 = .ok (.aload_n 0, 1) := by decide +kernel
theorem dX7_sharpsBy_32 : decode cX7_sharpsBy 32 = .ok (.getfield 73, 3) := by decide +kernel
theorem dX7_sharpsBy_35 : decode cX7_sharpsBy 35 = .ok (.iload 6, 2) := by decide +kernel
theorem dX7_sharpsBy_37 : decode cX7_sharpsBy 37 = .ok (.baload, 1) := by decide +kernel
theorem dX7_sharpsBy_38 : decode cX7_sharpsBy 38 = .ok (.ifCond .eq 7, 3) := by decide +kernel
theorem dX7_sharpsBy_41 : decode cX7_sharpsBy 41 = .ok (.iconst 1, 1) := by decide +kernel
theorem dX7_sharpsBy_42 : decode cX7_sharpsBy 42 = .ok (.goto 4, 3) := by decide +kernel
theorem dX7_sharpsBy_45 : decode cX7_sharpsBy 45 = .ok (.iconst 0, 1) := by decide +kernel
theorem dX7_sharpsBy_46 : decode cX7_sharpsBy 46 = .ok (.iadd, 1) := by decide +kernel
theorem dX7_sharpsBy_47 : decode cX7_sharpsBy 47 = .ok (.istore 4, 2) := by decide +kernel
theorem dX7_sharpsBy_49 : decode cX7_sharpsBy 49 = .ok (.aload_n 0, 1) := by decide +kernel
theorem dX7_sharpsBy_50 : decode cX7_sharpsBy 50 = .ok (.getfield 73, 3) := by decide +kernel
theorem dX7_sharpsBy_53 : decode cX7_sharpsBy 53 = .ok (.iload 6, 2) := by decide +kernel
theorem dX7_sharpsBy_55 : decode cX7_sharpsBy 55 = .ok (.baload, 1) := by decide +kernel
theorem dX7_sharpsBy_56 : decode cX7_sharpsBy 56 = .ok (.ifCond .eq 8, 3) := by decide +kernel
theorem dX7_sharpsBy_59 : decode cX7_sharpsBy 59 = .ok (.iload 6, 2) := by decide +kernel
theorem dX7_sharpsBy_61 : decode cX7_sharpsBy 61 = .ok (.goto 5, 3) := by decide +kernel
theorem dX7_sharpsBy_64 : decode cX7_sharpsBy 64 = .ok (.iload 5, 2) := by decide +kernel
theorem dX7_sharpsBy_66 : decode cX7_sharpsBy 66 = .ok (.istore 5, 2) := by decide +kernel
theorem dX7_sharpsBy_68 : decode cX7_sharpsBy 68 = .ok (.iinc 6 (-1), 3) := by decide +kernel
theorem dX7_sharpsBy_71 : decode cX7_sharpsBy 71 = .ok (.goto (-47), 3) := by decide +kernel
theorem dX7_sharpsBy_74 : decode cX7_sharpsBy 74 = .ok (.iload_n 3, 1) := by decide +kernel
theorem dX7_sharpsBy_75 : decode cX7_sharpsBy 75 = .ok (.ifCond .eq 8, 3) := by decide +kernel
theorem dX7_sharpsBy_78 : decode cX7_sharpsBy 78 = .ok (.iload 4, 2) := by decide +kernel
theorem dX7_sharpsBy_80 : decode cX7_sharpsBy 80 = .ok (.goto 5, 3) := by decide +kernel
theorem dX7_sharpsBy_83 : decode cX7_sharpsBy 83 = .ok (.iload 5, 2) := by decide +kernel
theorem dX7_sharpsBy_85 : decode cX7_sharpsBy 85 = .ok (.ireturn, 1) := by decide +kernel
theorem dX7_tells_0 : decode cX7_tells 0 = .ok (.iload_n 1, 1) := by decide +kernel
theorem dX7_tells_1 : decode cX7_tells 1 = .ok (.invokestatic 245, 3) := by decide +kernel
theorem dX7_tells_4 : decode cX7_tells 4 = .ok (.ifCond .eq 21, 3) := by decide +kernel
theorem dX7_tells_7 : decode cX7_tells 7 = .ok (.aload_n 0, 1) := by decide +kernel
theorem dX7_tells_8 : decode cX7_tells 8 = .ok (.iload_n 2, 1) := by decide +kernel
theorem dX7_tells_9 : decode cX7_tells 9 = .ok (.invokevirtual 94, 3) := by decide +kernel
theorem dX7_tells_12 : decode cX7_tells 12 = .ok (.ifCond .eq 13, 3) := by decide +kernel
theorem dX7_tells_15 : decode cX7_tells 15 = .ok (.iload_n 3, 1) := by decide +kernel
theorem dX7_tells_16 : decode cX7_tells 16 = .ok (.iconst 0, 1) := by decide +kernel
theorem dX7_tells_17 : decode cX7_tells 17 = .ok (.bipush 7, 2) := by decide +kernel
theorem dX7_tells_19 : decode cX7_tells 19 = .ok (.invokestatic 86, 3) := by decide +kernel
theorem dX7_tells_22 : decode cX7_tells 22 = .ok (.ifCond .ne 6, 3) := by decide +kernel
theorem dX7_tells_25 : decode cX7_tells 25 = .ok (.bipush (-2), 2) := by decide +kernel
theorem dX7_tells_27 : decode cX7_tells 27 = .ok (.ireturn, 1) := by decide +kernel
theorem dX7_tells_28 : decode cX7_tells 28 = .ok (.aload_n 0, 1) := by decide +kernel
theorem dX7_tells_29 : decode cX7_tells 29 = .ok (.getfield 58, 3) := by decide +kernel
theorem dX7_tells_32 : decode cX7_tells 32 = .ok (.iload_n 1, 1) := by decide +kernel
theorem dX7_tells_33 : decode cX7_tells 33 = .ok (.iaload, 1) := by decide +kernel
theorem dX7_tells_34 : decode cX7_tells 34 = .ok (.iconst (-1), 1) := by decide +kernel
theorem dX7_tells_35 : decode cX7_tells 35 = .ok (.if_icmp .ne 6, 3) := by decide +kernel
theorem dX7_tells_38 : decode cX7_tells 38 = .ok (.bipush (-11), 2) := by decide +kernel
theorem dX7_tells_40 : decode cX7_tells 40 = .ok (.ireturn, 1) := by decide +kernel
theorem dX7_tells_41 : decode cX7_tells 41 = .ok (.aload_n 0, 1) := by decide +kernel
theorem dX7_tells_42 : decode cX7_tells 42 = .ok (.getfield 61, 3) := by decide +kernel
theorem dX7_tells_45 : decode cX7_tells 45 = .ok (.iload_n 1, 1) := by decide +kernel
theorem dX7_tells_46 : decode cX7_tells 46 = .ok (.iaload, 1) := by decide +kernel
theorem dX7_tells_47 : decode cX7_tells 47 = .ok (.bipush 30, 2) := by decide +kernel
theorem dX7_tells_49 : decode cX7_tells 49 = .ok (.if_icmp .le 6, 3) := by decide +kernel
theorem dX7_tells_52 : decode cX7_tells 52 = .ok (.bipush (-2), 2) := by decide +kernel
theorem dX7_tells_54 : decode cX7_tells 54 = .ok (.ireturn, 1) := by decide +kernel
theorem dX7_tells_55 : decode cX7_tells 55 = .ok (.iconst 0, 1) := by decide +kernel
theorem dX7_tells_56 : decode cX7_tells 56 = .ok (.istore 4, 2) := by decide +kernel
theorem dX7_tells_58 : decode cX7_tells 58 = .ok (.iload_n 3, 1) := by decide +kernel
theorem dX7_tells_59 : decode cX7_tells 59 = .ok (.tableswitch 119 0 6 #[41, 48, 59, 73, 73, 90, 104], 41) := by decide +kernel
theorem dX7_tells_100 : decode cX7_tells 100 = .ok (.aload_n 0, 1) := by decide +kernel
theorem dX7_tells_101 : decode cX7_tells 101 = .ok (.iload_n 1, 1) := by decide +kernel
theorem dX7_tells_102 : decode cX7_tells 102 = .ok (.iload_n 2, 1) := by decide +kernel
theorem dX7_tells_103 : decode cX7_tells 103 = .ok (.invokevirtual 283, 3) := by decide +kernel
theorem dX7_tells_106 : decode cX7_tells 106 = .ok (.ireturn, 1) := by decide +kernel
theorem dX7_tells_107 : decode cX7_tells 107 = .ok (.aload_n 0, 1) := by decide +kernel
theorem dX7_tells_108 : decode cX7_tells 108 = .ok (.iload_n 1, 1) := by decide +kernel
theorem dX7_tells_109 : decode cX7_tells 109 = .ok (.iload_n 2, 1) := by decide +kernel
theorem dX7_tells_110 : decode cX7_tells 110 = .ok (.iconst 5, 1) := by decide +kernel
theorem dX7_tells_111 : decode cX7_tells 111 = .ok (.iload_n 2, 1) := by decide +kernel
theorem dX7_tells_112 : decode cX7_tells 112 = .ok (.imul, 1) := by decide +kernel
theorem dX7_tells_113 : decode cX7_tells 113 = .ok (.iconst 5, 1) := by decide +kernel
theorem dX7_tells_114 : decode cX7_tells 114 = .ok (.invokevirtual 286, 3) := by decide +kernel
theorem dX7_tells_117 : decode cX7_tells 117 = .ok (.ireturn, 1) := by decide +kernel
theorem dX7_tells_118 : decode cX7_tells 118 = .ok (.aload_n 0, 1) := by decide +kernel
theorem dX7_tells_119 : decode cX7_tells 119 = .ok (.iload_n 1, 1) := by decide +kernel
theorem dX7_tells_120 : decode cX7_tells 120 = .ok (.iload_n 2, 1) := by decide +kernel
theorem dX7_tells_121 : decode cX7_tells 121 = .ok (.iconst 5, 1) := by decide +kernel
theorem dX7_tells_122 : decode cX7_tells 122 = .ok (.iload_n 2, 1) := by decide +kernel
theorem dX7_tells_123 : decode cX7_tells 123 = .ok (.imul, 1) := by decide +kernel
theorem dX7_tells_124 : decode cX7_tells 124 = .ok (.iconst 1, 1) := by decide +kernel
theorem dX7_tells_125 : decode cX7_tells 125 = .ok (.iadd, 1) := by decide +kernel
theorem dX7_tells_126 : decode cX7_tells 126 = .ok (.bipush 9, 2) := by decide +kernel
theorem dX7_tells_128 : decode cX7_tells 128 = .ok (.invokevirtual 286, 3) := by decide +kernel
theorem dX7_tells_131 : decode cX7_tells 131 = .ok (.ireturn, 1) := by decide +kernel
theorem dX7_tells_132 : decode cX7_tells 132 = .ok (.aload_n 0, 1) := by decide +kernel
theorem dX7_tells_133 : decode cX7_tells 133 = .ok (.iload_n 1, 1) := by decide +kernel
theorem dX7_tells_134 : decode cX7_tells 134 = .ok (.iload_n 2, 1) := by decide +kernel
theorem dX7_tells_135 : decode cX7_tells 135 = .ok (.iload_n 3, 1) := by decide +kernel
theorem dX7_tells_136 : decode cX7_tells 136 = .ok (.iconst 3, 1) := by decide +kernel
theorem dX7_tells_137 : decode cX7_tells 137 = .ok (.if_icmp .ne 7, 3) := by decide +kernel
theorem dX7_tells_140 : decode cX7_tells 140 = .ok (.iconst 1, 1) := by decide +kernel
theorem dX7_tells_141 : decode cX7_tells 141 = .ok (.goto 4, 3) := by decide +kernel
theorem dX7_tells_144 : decode cX7_tells 144 = .ok (.iconst 0, 1) := by decide +kernel
theorem dX7_tells_145 : decode cX7_tells 145 = .ok (.invokevirtual 289, 3) := by decide +kernel
theorem dX7_tells_148 : decode cX7_tells 148 = .ok (.ireturn, 1) := by decide +kernel
theorem dX7_tells_149 : decode cX7_tells 149 = .ok (.aload_n 0, 1) := by decide +kernel
theorem dX7_tells_150 : decode cX7_tells 150 = .ok (.iload_n 1, 1) := by decide +kernel
theorem dX7_tells_151 : decode cX7_tells 151 = .ok (.iload_n 2, 1) := by decide +kernel
theorem dX7_tells_152 : decode cX7_tells 152 = .ok (.iconst 5, 1) := by decide +kernel
theorem dX7_tells_153 : decode cX7_tells 153 = .ok (.iload_n 2, 1) := by decide +kernel
theorem dX7_tells_154 : decode cX7_tells 154 = .ok (.imul, 1) := by decide +kernel
theorem dX7_tells_155 : decode cX7_tells 155 = .ok (.iconst 3, 1) := by decide +kernel
theorem dX7_tells_156 : decode cX7_tells 156 = .ok (.iadd, 1) := by decide +kernel
theorem dX7_tells_157 : decode cX7_tells 157 = .ok (.bipush 11, 2) := by decide +kernel
