theorem dX0_init_0 : decode cX0_init 0 = .ok (.aload_n 0, 1) := by decide +kernel
theorem dX0_init_1 : decode cX0_init 1 = .ok (.invokespecial 3, 3) := by decide +kernel
theorem dX0_init_4 : decode cX0_init 4 = .ok (.aload_n 0, 1) := by decide +kernel
theorem dX0_init_5 : decode cX0_init 5 = .ok (.bipush 8, 2) := by decide +kernel
theorem dX0_init_7 : decode cX0_init 7 = .ok (.newarray .int, 2) := by decide +kernel
theorem dX0_init_9 : decode cX0_init 9 = .ok (.putfield 9, 3) := by decide +kernel
theorem dX0_init_12 : decode cX0_init 12 = .ok (.aload_n 0, 1) := by decide +kernel
theorem dX0_init_13 : decode cX0_init 13 = .ok (.bipush 8, 2) := by decide +kernel
theorem dX0_init_15 : decode cX0_init 15 = .ok (.newarray .int, 2) := by decide +kernel
theorem dX0_init_17 : decode cX0_init 17 = .ok (.putfield 15, 3) := by decide +kernel
theorem dX0_init_20 : decode cX0_init 20 = .ok (.aload_n 0, 1) := by decide +kernel
theorem dX0_init_21 : decode cX0_init 21 = .ok (.bipush 8, 2) := by decide +kernel
theorem dX0_init_23 : decode cX0_init 23 = .ok (.newarray .int, 2) := by decide +kernel
theorem dX0_init_25 : decode cX0_init 25 = .ok (.putfield 18, 3) := by decide +kernel
theorem dX0_init_28 : decode cX0_init 28 = .ok (.aload_n 0, 1) := by decide +kernel
theorem dX0_init_29 : decode cX0_init 29 = .ok (.iconst 0, 1) := by decide +kernel
theorem dX0_init_30 : decode cX0_init 30 = .ok (.putfield 21, 3) := by decide +kernel
theorem dX0_init_33 : decode cX0_init 33 = .ok (.return_, 1) := by decide +kernel
theorem dX0_looksAt_0 : decode cX0_looksAt 0 = .ok (.aload_n 0, 1) := by decide +kernel
theorem dX0_looksAt_1 : decode cX0_looksAt 1 = .ok (.aload_n 1, 1) := by decide +kernel
theorem dX0_looksAt_2 : decode cX0_looksAt 2 = .ok (.getfield 25, 3) := by decide +kernel
theorem dX0_looksAt_5 : decode cX0_looksAt 5 = .ok (.putfield 21, 3) := by decide +kernel
theorem dX0_looksAt_8 : decode cX0_looksAt 8 = .ok (.aload_n 0, 1) := by decide +kernel
theorem dX0_looksAt_9 : decode cX0_looksAt 9 = .ok (.getfield 9, 3) := by decide +kernel
theorem dX0_looksAt_12 : decode cX0_looksAt 12 = .ok (.iconst 0, 1) := by decide +kernel
theorem dX0_looksAt_13 : decode cX0_looksAt 13 = .ok (.invokestatic 28, 3) := by decide +kernel
theorem dX0_looksAt_16 : decode cX0_looksAt 16 = .ok (.iconst 0, 1) := by decide +kernel
theorem dX0_looksAt_17 : decode cX0_looksAt 17 = .ok (.istore_n 2, 1) := by decide +kernel
theorem dX0_looksAt_18 : decode cX0_looksAt 18 = .ok (.iload_n 2, 1) := by decide +kernel
theorem dX0_looksAt_19 : decode cX0_looksAt 19 = .ok (.aload_n 0, 1) := by decide +kernel
theorem dX0_looksAt_20 : decode cX0_looksAt 20 = .ok (.getfield 21, 3) := by decide +kernel
theorem dX0_looksAt_23 : decode cX0_looksAt 23 = .ok (.if_icmp .ge 60, 3) := by decide +kernel
theorem dX0_looksAt_26 : decode cX0_looksAt 26 = .ok (.iload_n 2, 1) := by decide +kernel
theorem dX0_looksAt_27 : decode cX0_looksAt 27 = .ok (.iconst 1, 1) := by decide +kernel
theorem dX0_looksAt_28 : decode cX0_looksAt 28 = .ok (.iadd, 1) := by decide +kernel
theorem dX0_looksAt_29 : decode cX0_looksAt 29 = .ok (.istore_n 3, 1) := by decide +kernel
theorem dX0_looksAt_30 : decode cX0_looksAt 30 = .ok (.iload_n 3, 1) := by decide +kernel
theorem dX0_looksAt_31 : decode cX0_looksAt 31 = .ok (.aload_n 0, 1) := by decide +kernel
theorem dX0_looksAt_32 : decode cX0_looksAt 32 = .ok (.getfield 21, 3) := by decide +kernel
theorem dX0_looksAt_35 : decode cX0_looksAt 35 = .ok (.if_icmp .ge 42, 3) := by decide +kernel
theorem dX0_looksAt_38 : decode cX0_looksAt 38 = .ok (.aload_n 1, 1) := by decide +kernel
theorem dX0_looksAt_39 : decode cX0_looksAt 39 = .ok (.iload_n 2, 1) := by decide +kernel
theorem dX0_looksAt_40 : decode cX0_looksAt 40 = .ok (.iload_n 3, 1) := by decide +kernel
theorem dX0_looksAt_41 : decode cX0_looksAt 41 = .ok (.invokevirtual 34, 3) := by decide +kernel
theorem dX0_looksAt_44 : decode cX0_looksAt 44 = .ok (.ifCond .eq 27, 3) := by decide +kernel
theorem dX0_looksAt_47 : decode cX0_looksAt 47 = .ok (.aload_n 0, 1) := by decide +kernel
theorem dX0_looksAt_48 : decode cX0_looksAt 48 = .ok (.getfield 9, 3) := by decide +kernel
theorem dX0_looksAt_51 : decode cX0_looksAt 51 = .ok (.iload_n 2, 1) := by decide +kernel
theorem dX0_looksAt_52 : decode cX0_looksAt 52 = .ok (.dup2, 1) := by decide +kernel
theorem dX0_looksAt_53 : decode cX0_looksAt 53 = .ok (.iaload, 1) := by decide +kernel
theorem dX0_looksAt_54 : decode cX0_looksAt 54 = .ok (.iconst 1, 1) := by decide +kernel
theorem dX0_looksAt_55 : decode cX0_looksAt 55 = .ok (.iload_n 3, 1) := by decide +kernel
theorem dX0_looksAt_56 : decode cX0_looksAt 56 = .ok (.ishl, 1) := by decide +kernel
theorem dX0_looksAt_57 : decode cX0_looksAt 57 = .ok (.ior, 1) := by decide +kernel
theorem dX0_looksAt_58 : decode cX0_looksAt 58 = .ok (.iastore, 1) := by decide +kernel
theorem dX0_looksAt_59 : decode cX0_looksAt 59 = .ok (.aload_n 0, 1) := by decide +kernel
theorem dX0_looksAt_60 : decode cX0_looksAt 60 = .ok (.getfield 9, 3) := by decide +kernel
theorem dX0_looksAt_63 : decode cX0_looksAt 63 = .ok (.iload_n 3, 1) := by decide +kernel
theorem dX0_looksAt_64 : decode cX0_looksAt 64 = .ok (.dup2, 1) := by decide +kernel
theorem dX0_looksAt_65 : decode cX0_looksAt 65 = .ok (.iaload, 1) := by decide +kernel
theorem dX0_looksAt_66 : decode cX0_looksAt 66 = .ok (.iconst 1, 1) := by decide +kernel
theorem dX0_looksAt_67 : decode cX0_looksAt 67 = .ok (.iload_n 2, 1) := by decide +kernel
theorem dX0_looksAt_68 : decode cX0_looksAt 68 = .ok (.ishl, 1) := by decide +kernel
theorem dX0_looksAt_69 : decode cX0_looksAt 69 = .ok (.ior, 1) := by decide +kernel
theorem dX0_looksAt_70 : decode cX0_looksAt 70 = .ok (.iastore, 1) := by decide +kernel
theorem dX0_looksAt_71 : decode cX0_looksAt 71 = .ok (.iinc 3 1, 3) := by decide +kernel
theorem dX0_looksAt_74 : decode cX0_looksAt 74 = .ok (.goto (-44), 3) := by decide +kernel
theorem dX0_looksAt_77 : decode cX0_looksAt 77 = .ok (.iinc 2 1, 3) := by decide +kernel
theorem dX0_looksAt_80 : decode cX0_looksAt 80 = .ok (.goto (-62), 3) := by decide +kernel
theorem dX0_looksAt_83 : decode cX0_looksAt 83 = .ok (.return_, 1) := by decide +kernel
theorem dX0_fewestWithout_0 : decode cX0_fewestWithout 0 = .ok (.iconst 0, 1) := by decide +kernel
theorem dX0_fewestWithout_1 : decode cX0_fewestWithout 1 = .ok (.istore_n 2, 1) := by decide +kernel
theorem dX0_fewestWithout_2 : decode cX0_fewestWithout 2 = .ok (.iload_n 2, 1) := by decide +kernel
theorem dX0_fewestWithout_3 : decode cX0_fewestWithout 3 = .ok (.aload_n 0, 1) := by decide +kernel
theorem dX0_fewestWithout_4 : decode cX0_fewestWithout 4 = .ok (.getfield 21, 3) := by decide +kernel
theorem dX0_fewestWithout_7 : decode cX0_fewestWithout 7 = .ok (.if_icmp .gt 30, 3) := by decide +kernel
theorem dX0_fewestWithout_10 : decode cX0_fewestWithout 10 = .ok (.aload_n 0, 1) := by decide +kernel
theorem dX0_fewestWithout_11 : decode cX0_fewestWithout 11 = .ok (.getfield 15, 3) := by decide +kernel
theorem dX0_fewestWithout_14 : decode cX0_fewestWithout 14 = .ok (.iconst 0, 1) := by decide +kernel
theorem dX0_fewestWithout_15 : decode cX0_fewestWithout 15 = .ok (.invokestatic 28, 3) := by decide +kernel
theorem dX0_fewestWithout_18 : decode cX0_fewestWithout 18 = .ok (.aload_n 0, 1) := by decide +kernel
theorem dX0_fewestWithout_19 : decode cX0_fewestWithout 19 = .ok (.iconst 0, 1) := by decide +kernel
theorem dX0_fewestWithout_20 : decode cX0_fewestWithout 20 = .ok (.iload_n 1, 1) := by decide +kernel
theorem dX0_fewestWithout_21 : decode cX0_fewestWithout 21 = .ok (.iconst 0, 1) := by decide +kernel
theorem dX0_fewestWithout_22 : decode cX0_fewestWithout 22 = .ok (.iload_n 2, 1) := by decide +kernel
theorem dX0_fewestWithout_23 : decode cX0_fewestWithout 23 = .ok (.invokestatic 38, 3) := by decide +kernel
theorem dX0_fewestWithout_26 : decode cX0_fewestWithout 26 = .ok (.ifCond .eq 5, 3) := by decide +kernel
theorem dX0_fewestWithout_29 : decode cX0_fewestWithout 29 = .ok (.iload_n 2, 1) := by decide +kernel
theorem dX0_fewestWithout_30 : decode cX0_fewestWithout 30 = .ok (.ireturn, 1) := by decide +kernel
theorem dX0_fewestWithout_31 : decode cX0_fewestWithout 31 = .ok (.iinc 2 1, 3) := by decide +kernel
theorem dX0_fewestWithout_34 : decode cX0_fewestWithout 34 = .ok (.goto (-32), 3) := by decide +kernel
theorem dX0_fewestWithout_37 : decode cX0_fewestWithout 37 = .ok (.aload_n 0, 1) := by decide +kernel
theorem dX0_fewestWithout_38 : decode cX0_fewestWithout 38 = .ok (.getfield 21, 3) := by decide +kernel
theorem dX0_fewestWithout_41 : decode cX0_fewestWithout 41 = .ok (.ireturn, 1) := by decide +kernel
theorem dX0_isFilled_0 : decode cX0_isFilled 0 = .ok (.iload_n 1, 1) := by decide +kernel
theorem dX0_isFilled_1 : decode cX0_isFilled 1 = .ok (.aload_n 0, 1) := by decide +kernel
theorem dX0_isFilled_2 : decode cX0_isFilled 2 = .ok (.getfield 21, 3) := by decide +kernel
theorem dX0_isFilled_5 : decode cX0_isFilled 5 = .ok (.if_icmp .lt 5, 3) := by decide +kernel
theorem dX0_isFilled_8 : decode cX0_isFilled 8 = .ok (.iconst 1, 1) := by decide +kernel
theorem dX0_isFilled_9 : decode cX0_isFilled 9 = .ok (.ireturn, 1) := by decide +kernel
theorem dX0_isFilled_10 : decode cX0_isFilled 10 = .ok (.iload_n 1, 1) := by decide +kernel
theorem dX0_isFilled_11 : decode cX0_isFilled 11 = .ok (.iload_n 2, 1) := by decide +kernel
theorem dX0_isFilled_12 : decode cX0_isFilled 12 = .ok (.if_icmp .ne 15, 3) := by decide +kernel
theorem dX0_isFilled_15 : decode cX0_isFilled 15 = .ok (.aload_n 0, 1) := by decide +kernel
theorem dX0_isFilled_16 : decode cX0_isFilled 16 = .ok (.iload_n 1, 1) := by decide +kernel
theorem dX0_isFilled_17 : decode cX0_isFilled 17 = .ok (.iconst 1, 1) := by decide +kernel
theorem dX0_isFilled_18 : decode cX0_isFilled 18 = .ok (.iadd, 1) := by decide +kernel
theorem dX0_isFilled_19 : decode cX0_isFilled 19 = .ok (.iload_n 2, 1) := by decide +kernel
theorem dX0_isFilled_20 : decode cX0_isFilled 20 = .ok (.iload_n 3, 1) := by decide +kernel
theorem dX0_isFilled_21 : decode cX0_isFilled 21 = .ok (.iload 4, 2) := by decide +kernel
theorem dX0_isFilled_23 : decode cX0_isFilled 23 = .ok (.invokestatic 38, 3) := by decide +kernel
theorem dX0_isFilled_26 : decode cX0_isFilled 26 = .ok (.ireturn, 1) := by decide +kernel
theorem dX0_isFilled_27 : decode cX0_isFilled 27 = .ok (.iload_n 3, 1) := by decide +kernel
theorem dX0_isFilled_28 : decode cX0_isFilled 28 = .ok (.iconst 1, 1) := by decide +kernel
theorem dX0_isFilled_29 : decode cX0_isFilled 29 = .ok (.iadd, 1) := by decide +kernel
theorem dX0_isFilled_30 : decode cX0_isFilled 30 = .ok (.iload 4, 2) := by decide +kernel
theorem dX0_isFilled_32 : decode cX0_isFilled 32 = .ok (.invokestatic 42, 3) := by decide +kernel
theorem dX0_isFilled_35 : decode cX0_isFilled 35 = .ok (.istore 5, 2) := by decide +kernel
theorem dX0_isFilled_37 : decode cX0_isFilled 37 = .ok (.iconst 0, 1) := by decide +kernel
theorem dX0_isFilled_38 : decode cX0_isFilled 38 = .ok (.istore 6, 2) := by decide +kernel
theorem dX0_isFilled_40 : decode cX0_isFilled 40 = .ok (.iload 6, 2) := by decide +kernel
theorem dX0_isFilled_42 : decode cX0_isFilled 42 = .ok (.iload 5, 2) := by decide +kernel
theorem dX0_isFilled_44 : decode cX0_isFilled 44 = .ok (.if_icmp .ge 87, 3) := by decide +kernel
theorem dX0_isFilled_47 : decode cX0_isFilled 47 = .ok (.aload_n 0, 1) := by decide +kernel
theorem dX0_isFilled_48 : decode cX0_isFilled 48 = .ok (.getfield 15, 3) := by decide +kernel
theorem dX0_isFilled_51 : decode cX0_isFilled 51 = .ok (.iload 6, 2) := by decide +kernel
theorem dX0_isFilled_53 : decode cX0_isFilled 53 = .ok (.iaload, 1) := by decide +kernel
theorem dX0_isFilled_54 : decode cX0_isFilled 54 = .ok (.aload_n 0, 1) := by decide +kernel
theorem dX0_isFilled_55 : decode cX0_isFilled 55 = .ok (.getfield 9, 3) := by decide +kernel
theorem dX0_isFilled_58 : decode cX0_isFilled 58 = .ok (.iload_n 1, 1) := by decide +kernel
theorem dX0_isFilled_59 : decode cX0_isFilled 59 = .ok (.iaload, 1) := by decide +kernel
theorem dX0_isFilled_60 : decode cX0_isFilled 60 = .ok (.iand, 1) := by decide +kernel
theorem dX0_isFilled_61 : decode cX0_isFilled 61 = .ok (.ifCond .ne 64, 3) := by decide +kernel
theorem dX0_isFilled_64 : decode cX0_isFilled 64 = .ok (.aload_n 0, 1) := by decide +kernel
theorem dX0_isFilled_65 : decode cX0_isFilled 65 = .ok (.getfield 15, 3) := by decide +kernel
theorem dX0_isFilled_68 : decode cX0_isFilled 68 = .ok (.iload 6, 2) := by decide +kernel
theorem dX0_isFilled_70 : decode cX0_isFilled 70 = .ok (.dup2, 1) := by decide +kernel
theorem dX0_isFilled_71 : decode cX0_isFilled 71 = .ok (.iaload, 1) := by decide +kernel
theorem dX0_isFilled_72 : decode cX0_isFilled 72 = .ok (.iconst 1, 1) := by decide +kernel
theorem dX0_isFilled_73 : decode cX0_isFilled 73 = .ok (.iload_n 1, 1) := by decide +kernel
theorem dX0_isFilled_74 : decode cX0_isFilled 74 = .ok (.ishl, 1) := by decide +kernel
theorem dX0_isFilled_75 : decode cX0_isFilled 75 = .ok (.ior, 1) := by decide +kernel
theorem dX0_isFilled_76 : decode cX0_isFilled 76 = .ok (.iastore, 1) := by decide +kernel
theorem dX0_isFilled_77 : decode cX0_isFilled 77 = .ok (.aload_n 0, 1) := by decide +kernel
theorem dX0_isFilled_78 : decode cX0_isFilled 78 = .ok (.getfield 18, 3) := by decide +kernel
theorem dX0_isFilled_81 : decode cX0_isFilled 81 = .ok (.iload_n 1, 1) := by decide +kernel
theorem dX0_isFilled_82 : decode cX0_isFilled 82 = .ok (.iload 6, 2) := by decide +kernel
theorem dX0_isFilled_84 : decode cX0_isFilled 84 = .ok (.iconst 1, 1) := by decide +kernel
theorem dX0_isFilled_85 : decode cX0_isFilled 85 = .ok (.iadd, 1) := by decide +kernel
theorem dX0_isFilled_86 : decode cX0_isFilled 86 = .ok (.iastore, 1) := by decide +kernel
theorem dX0_isFilled_87 : decode cX0_isFilled 87 = .ok (.aload_n 0, 1) := by decide +kernel
theorem dX0_isFilled_88 : decode cX0_isFilled 88 = .ok (.iload_n 1, 1) := by decide +kernel
theorem dX0_isFilled_89 : decode cX0_isFilled 89 = .ok (.iconst 1, 1) := by decide +kernel
theorem dX0_isFilled_90 : decode cX0_isFilled 90 = .ok (.iadd, 1) := by decide +kernel
theorem dX0_isFilled_91 : decode cX0_isFilled 91 = .ok (.iload_n 2, 1) := by decide +kernel
theorem dX0_isFilled_92 : decode cX0_isFilled 92 = .ok (.iload_n 3, 1) := by decide +kernel
theorem dX0_isFilled_93 : decode cX0_isFilled 93 = .ok (.iload 6, 2) := by decide +kernel
theorem dX0_isFilled_95 : decode cX0_isFilled 95 = .ok (.iconst 1, 1) := by decide +kernel
theorem dX0_isFilled_96 : decode cX0_isFilled 96 = .ok (.iadd, 1) := by decide +kernel
theorem dX0_isFilled_97 : decode cX0_isFilled 97 = .ok (.invokestatic 48, 3) := by decide +kernel
theorem dX0_isFilled_100 : decode cX0_isFilled 100 = .ok (.iload 4, 2) := by decide +kernel
theorem dX0_isFilled_102 : decode cX0_isFilled 102 = .ok (.invokestatic 38, 3) := by decide +kernel
theorem dX0_isFilled_105 : decode cX0_isFilled 105 = .ok (.ifCond .eq 5, 3) := by decide +kernel
theorem dX0_isFilled_108 : decode cX0_isFilled 108 = .ok (.iconst 1, 1) := by decide +kernel
theorem dX0_isFilled_109 : decode cX0_isFilled 109 = .ok (.ireturn, 1) := by decide +kernel
theorem dX0_isFilled_110 : decode cX0_isFilled 110 = .ok (.aload_n 0, 1) := by decide +kernel
theorem dX0_isFilled_111 : decode cX0_isFilled 111 = .ok (.getfield 15, 3) := by decide +kernel
theorem dX0_isFilled_114 : decode cX0_isFilled 114 = .ok (.iload 6, 2) := by decide +kernel
theorem dX0_isFilled_116 : decode cX0_isFilled 116 = .ok (.dup2, 1) := by decide +kernel
theorem dX0_isFilled_117 : decode cX0_isFilled 117 = .ok (.iaload, 1) := by decide +kernel
theorem dX0_isFilled_118 : decode cX0_isFilled 118 = .ok (.iconst 1, 1) := by decide +kernel
theorem dX0_isFilled_119 : decode cX0_isFilled 119 = .ok (.iload_n 1, 1) := by decide +kernel
theorem dX0_isFilled_120 : decode cX0_isFilled 120 = .ok (.ishl, 1) := by decide +kernel
theorem dX0_isFilled_121 : decode cX0_isFilled 121 = .ok (.iconst (-1), 1) := by decide +kernel
theorem dX0_isFilled_122 : decode cX0_isFilled 122 = .ok (.ixor, 1) := by decide +kernel
theorem dX0_isFilled_123 : decode cX0_isFilled 123 = .ok (.iand, 1) := by decide +kernel
theorem dX0_isFilled_124 : decode cX0_isFilled 124 = .ok (.iastore, 1) := by decide +kernel
theorem dX0_isFilled_125 : decode cX0_isFilled 125 = .ok (.iinc 6 1, 3) := by decide +kernel
theorem dX0_isFilled_128 : decode cX0_isFilled 128 = .ok (.goto (-88), 3) := by decide +kernel
theorem dX0_isFilled_131 : decode cX0_isFilled 131 = .ok (.iconst 0, 1) := by decide +kernel
theorem dX0_isFilled_132 : decode cX0_isFilled 132 = .ok (.ireturn, 1) := by decide +kernel
theorem dX0_digits_0 : decode cX0_digits 0 = .ok (.aload_n 0, 1) := by decide +kernel
theorem dX0_digits_1 : decode cX0_digits 1 = .ok (.iconst (-1), 1) := by decide +kernel
theorem dX0_digits_2 : decode cX0_digits 2 = .ok (.invokevirtual 51, 3) := by decide +kernel
theorem dX0_digits_5 : decode cX0_digits 5 = .ok (.pop, 1) := by decide +kernel
theorem dX0_digits_6 : decode cX0_digits 6 = .ok (.iconst 0, 1) := by decide +kernel
theorem dX0_digits_7 : decode cX0_digits 7 = .ok (.istore_n 1, 1) := by decide +kernel
theorem dX0_digits_8 : decode cX0_digits 8 = .ok (.iconst 0, 1) := by decide +kernel
theorem dX0_digits_9 : decode cX0_digits 9 = .ok (.istore_n 2, 1) := by decide +kernel
theorem dX0_digits_10 : decode cX0_digits 10 = .ok (.iload_n 2, 1) := by decide +kernel
theorem dX0_digits_11 : decode cX0_digits 11 = .ok (.aload_n 0, 1) := by decide +kernel
theorem dX0_digits_12 : decode cX0_digits 12 = .ok (.getfield 21, 3) := by decide +kernel
theorem dX0_digits_15 : decode cX0_digits 15 = .ok (.if_icmp .ge 21, 3) := by decide +kernel
theorem dX0_digits_18 : decode cX0_digits 18 = .ok (.iload_n 1, 1) := by decide +kernel
theorem dX0_digits_19 : decode cX0_digits 19 = .ok (.bipush 10, 2) := by decide +kernel
theorem dX0_digits_21 : decode cX0_digits 21 = .ok (.imul, 1) := by decide +kernel
theorem dX0_digits_22 : decode cX0_digits 22 = .ok (.aload_n 0, 1) := by decide +kernel
theorem dX0_digits_23 : decode cX0_digits 23 = .ok (.getfield 18, 3) := by decide +kernel
theorem dX0_digits_26 : decode cX0_digits 26 = .ok (.iload_n 2, 1) := by decide +kernel
theorem dX0_digits_27 : decode cX0_digits 27 = .ok (.iaload, 1) := by decide +kernel
theorem dX0_digits_28 : decode cX0_digits 28 = .ok (.iadd, 1) := by decide +kernel
theorem dX0_digits_29 : decode cX0_digits 29 = .ok (.istore_n 1, 1) := by decide +kernel
theorem dX0_digits_30 : decode cX0_digits 30 = .ok (.iinc 2 1, 3) := by decide +kernel
theorem dX0_digits_33 : decode cX0_digits 33 = .ok (.goto (-23), 3) := by decide +kernel
theorem dX0_digits_36 : decode cX0_digits 36 = .ok (.iload_n 1, 1) := by decide +kernel
theorem dX0_digits_37 : decode cX0_digits 37 = .ok (.ireturn, 1) := by decide +kernel
theorem dX0_leftOut_0 : decode cX0_leftOut 0 = .ok (.iconst (-1), 1) := by decide +kernel
theorem dX0_leftOut_1 : decode cX0_leftOut 1 = .ok (.istore_n 1, 1) := by decide +kernel
theorem dX0_leftOut_2 : decode cX0_leftOut 2 = .ok (.aload_n 0, 1) := by decide +kernel
theorem dX0_leftOut_3 : decode cX0_leftOut 3 = .ok (.getfield 21, 3) := by decide +kernel
theorem dX0_leftOut_6 : decode cX0_leftOut 6 = .ok (.iconst 1, 1) := by decide +kernel
theorem dX0_leftOut_7 : decode cX0_leftOut 7 = .ok (.iadd, 1) := by decide +kernel
theorem dX0_leftOut_8 : decode cX0_leftOut 8 = .ok (.istore_n 2, 1) := by decide +kernel
theorem dX0_leftOut_9 : decode cX0_leftOut 9 = .ok (.iconst 0, 1) := by decide +kernel
theorem dX0_leftOut_10 : decode cX0_leftOut 10 = .ok (.istore_n 3, 1) := by decide +kernel
theorem dX0_leftOut_11 : decode cX0_leftOut 11 = .ok (.iload_n 3, 1) := by decide +kernel
theorem dX0_leftOut_12 : decode cX0_leftOut 12 = .ok (.aload_n 0, 1) := by decide +kernel
theorem dX0_leftOut_13 : decode cX0_leftOut 13 = .ok (.getfield 21, 3) := by decide +kernel
theorem dX0_leftOut_16 : decode cX0_leftOut 16 = .ok (.if_icmp .ge 27, 3) := by decide +kernel
theorem dX0_leftOut_19 : decode cX0_leftOut 19 = .ok (.aload_n 0, 1) := by decide +kernel
theorem dX0_leftOut_20 : decode cX0_leftOut 20 = .ok (.iload_n 3, 1) := by decide +kernel
theorem dX0_leftOut_21 : decode cX0_leftOut 21 = .ok (.invokevirtual 51, 3) := by decide +kernel
theorem dX0_leftOut_24 : decode cX0_leftOut 24 = .ok (.istore 4, 2) := by decide +kernel
theorem dX0_leftOut_26 : decode cX0_leftOut 26 = .ok (.iload 4, 2) := by decide +kernel
theorem dX0_leftOut_28 : decode cX0_leftOut 28 = .ok (.iload_n 2, 1) := by decide +kernel
theorem dX0_leftOut_29 : decode cX0_leftOut 29 = .ok (.if_icmp .ge 8, 3) := by decide +kernel
theorem dX0_leftOut_32 : decode cX0_leftOut 32 = .ok (.iload_n 3, 1) := by decide +kernel
theorem dX0_leftOut_33 : decode cX0_leftOut 33 = .ok (.istore_n 1, 1) := by decide +kernel
theorem dX0_leftOut_34 : decode cX0_leftOut 34 = .ok (.iload 4, 2) := by decide +kernel
theorem dX0_leftOut_36 : decode cX0_leftOut 36 = .ok (.istore_n 2, 1) := by decide +kernel
theorem dX0_leftOut_37 : decode cX0_leftOut 37 = .ok (.iinc 3 1, 3) := by decide +kernel
theorem dX0_leftOut_40 : decode cX0_leftOut 40 = .ok (.goto (-29), 3) := by decide +kernel
theorem dX0_leftOut_43 : decode cX0_leftOut 43 = .ok (.iload_n 1, 1) := by decide +kernel
theorem dX0_leftOut_44 : decode cX0_leftOut 44 = .ok (.ireturn, 1) := by decide +kernel
theorem dX0_fewestWithoutLeftOut_0 : decode cX0_fewestWithoutLeftOut 0 = .ok (.aload_n 0, 1) := by decide +kernel
theorem dX0_fewestWithoutLeftOut_1 : decode cX0_fewestWithoutLeftOut 1 = .ok (.aload_n 0, 1) := by decide +kernel
theorem dX0_fewestWithoutLeftOut_2 : decode cX0_fewestWithoutLeftOut 2 = .ok (.invokevirtual 55, 3) := by decide +kernel
theorem dX0_fewestWithoutLeftOut_5 : decode cX0_fewestWithoutLeftOut 5 = .ok (.invokevirtual 51, 3) := by decide +kernel
theorem dX0_fewestWithoutLeftOut_8 : decode cX0_fewestWithoutLeftOut 8 = .ok (.ireturn, 1) := by decide +kernel
theorem dX1_init_0 : decode cX1_init 0 = .ok (.aload_n 0, 1) := by decide +kernel
theorem dX1_init_1 : decode cX1_init 1 = .ok (.invokespecial 3, 3) := by decide +kernel
theorem dX1_init_4 : decode cX1_init 4 = .ok (.aload_n 0, 1) := by decide +kernel
theorem dX1_init_5 : decode cX1_init 5 = .ok (.sipush 160, 3) := by decide +kernel
theorem dX1_init_8 : decode cX1_init 8 = .ok (.newarray .int, 2) := by decide +kernel
theorem dX1_init_10 : decode cX1_init 10 = .ok (.putfield 9, 3) := by decide +kernel
theorem dX1_init_13 : decode cX1_init 13 = .ok (.aload_n 0, 1) := by decide +kernel
theorem dX1_init_14 : decode cX1_init 14 = .ok (.iconst 0, 1) := by decide +kernel
theorem dX1_init_15 : decode cX1_init 15 = .ok (.putfield 15, 3) := by decide +kernel
theorem dX1_init_18 : decode cX1_init 18 = .ok (.aload_n 0, 1) := by decide +kernel
theorem dX1_init_19 : decode cX1_init 19 = .ok (.iconst (-1), 1) := by decide +kernel
theorem dX1_init_20 : decode cX1_init 20 = .ok (.putfield 19, 3) := by decide +kernel
theorem dX1_init_23 : decode cX1_init 23 = .ok (.aload_n 0, 1) := by decide +kernel
theorem dX1_init_24 : decode cX1_init 24 = .ok (.sipush 160, 3) := by decide +kernel
theorem dX1_init_27 : decode cX1_init 27 = .ok (.newarray .int, 2) := by decide +kernel
theorem dX1_init_29 : decode cX1_init 29 = .ok (.putfield 22, 3) := by decide +kernel
theorem dX1_init_32 : decode cX1_init 32 = .ok (.aload_n 0, 1) := by decide +kernel
theorem dX1_init_33 : decode cX1_init 33 = .ok (.iconst 0, 1) := by decide +kernel
theorem dX1_init_34 : decode cX1_init 34 = .ok (.putfield 25, 3) := by decide +kernel
theorem dX1_init_37 : decode cX1_init 37 = .ok (.aload_n 0, 1) := by decide +kernel
theorem dX1_init_38 : decode cX1_init 38 = .ok (.iconst 0, 1) := by decide +kernel
theorem dX1_init_39 : decode cX1_init 39 = .ok (.putfield 28, 3) := by decide +kernel
theorem dX1_init_42 : decode cX1_init 42 = .ok (.aload_n 0, 1) := by decide +kernel
theorem dX1_init_43 : decode cX1_init 43 = .ok (.iconst 0, 1) := by decide +kernel
theorem dX1_init_44 : decode cX1_init 44 = .ok (.putfield 31, 3) := by decide +kernel
theorem dX1_init_47 : decode cX1_init 47 = .ok (.aload_n 0, 1) := by decide +kernel
theorem dX1_init_48 : decode cX1_init 48 = .ok (.bipush 21, 2) := by decide +kernel
theorem dX1_init_50 : decode cX1_init 50 = .ok (.putfield 34, 3) := by decide +kernel
theorem dX1_init_53 : decode cX1_init 53 = .ok (.aload_n 0, 1) := by decide +kernel
theorem dX1_init_54 : decode cX1_init 54 = .ok (.iconst 0, 1) := by decide +kernel
theorem dX1_init_55 : decode cX1_init 55 = .ok (.putfield 37, 3) := by decide +kernel
theorem dX1_init_58 : decode cX1_init 58 = .ok (.return_, 1) := by decide +kernel
theorem dX1_takes_0 : decode cX1_takes 0 = .ok (.aload_n 0, 1) := by decide +kernel
theorem dX1_takes_1 : decode cX1_takes 1 = .ok (.getfield 15, 3) := by decide +kernel
theorem dX1_takes_4 : decode cX1_takes 4 = .ok (.sipush 160, 3) := by decide +kernel
theorem dX1_takes_7 : decode cX1_takes 7 = .ok (.if_icmp .lt 5, 3) := by decide +kernel
theorem dX1_takes_10 : decode cX1_takes 10 = .ok (.iconst 0, 1) := by decide +kernel
theorem dX1_takes_11 : decode cX1_takes 11 = .ok (.ireturn, 1) := by decide +kernel
theorem dX1_takes_12 : decode cX1_takes 12 = .ok (.aload_n 0, 1) := by decide +kernel
theorem dX1_takes_13 : decode cX1_takes 13 = .ok (.getfield 9, 3) := by decide +kernel
theorem dX1_takes_16 : decode cX1_takes 16 = .ok (.aload_n 0, 1) := by decide +kernel
theorem dX1_takes_17 : decode cX1_takes 17 = .ok (.getfield 15, 3) := by decide +kernel
theorem dX1_takes_20 : decode cX1_takes 20 = .ok (.iload_n 1, 1) := by decide +kernel
theorem dX1_takes_21 : decode cX1_takes 21 = .ok (.iastore, 1) := by decide +kernel
theorem dX1_takes_22 : decode cX1_takes 22 = .ok (.aload_n 0, 1) := by decide +kernel
theorem dX1_takes_23 : decode cX1_takes 23 = .ok (.dup, 1) := by decide +kernel
theorem dX1_takes_24 : decode cX1_takes 24 = .ok (.getfield 15, 3) := by decide +kernel
theorem dX1_takes_27 : decode cX1_takes 27 = .ok (.iconst 1, 1) := by decide +kernel
theorem dX1_takes_28 : decode cX1_takes 28 = .ok (.iadd, 1) := by decide +kernel
theorem dX1_takes_29 : decode cX1_takes 29 = .ok (.putfield 15, 3) := by decide +kernel
theorem dX1_takes_32 : decode cX1_takes 32 = .ok (.iconst 1, 1) := by decide +kernel
theorem dX1_takes_33 : decode cX1_takes 33 = .ok (.ireturn, 1) := by decide +kernel
theorem dX1_reads_0 : decode cX1_reads 0 = .ok (.aload_n 0, 1) := by decide +kernel
theorem dX1_reads_1 : decode cX1_reads 1 = .ok (.iconst (-1), 1) := by decide +kernel
theorem dX1_reads_2 : decode cX1_reads 2 = .ok (.putfield 19, 3) := by decide +kernel
theorem dX1_reads_5 : decode cX1_reads 5 = .ok (.aload_n 0, 1) := by decide +kernel
theorem dX1_reads_6 : decode cX1_reads 6 = .ok (.iconst 0, 1) := by decide +kernel
theorem dX1_reads_7 : decode cX1_reads 7 = .ok (.putfield 25, 3) := by decide +kernel
theorem dX1_reads_10 : decode cX1_reads 10 = .ok (.aload_n 0, 1) := by decide +kernel
theorem dX1_reads_11 : decode cX1_reads 11 = .ok (.iconst 0, 1) := by decide +kernel
theorem dX1_reads_12 : decode cX1_reads 12 = .ok (.putfield 28, 3) := by decide +kernel
theorem dX1_reads_15 : decode cX1_reads 15 = .ok (.aload_n 0, 1) := by decide +kernel
theorem dX1_reads_16 : decode cX1_reads 16 = .ok (.invokevirtual 40, 3) := by decide +kernel
theorem dX1_reads_19 : decode cX1_reads 19 = .ok (.iconst 0, 1) := by decide +kernel
theorem dX1_reads_20 : decode cX1_reads 20 = .ok (.istore_n 1, 1) := by decide +kernel
theorem dX1_reads_21 : decode cX1_reads 21 = .ok (.iconst 0, 1) := by decide +kernel
theorem dX1_reads_22 : decode cX1_reads 22 = .ok (.istore_n 2, 1) := by decide +kernel
theorem dX1_reads_23 : decode cX1_reads 23 = .ok (.iconst 0, 1) := by decide +kernel
theorem dX1_reads_24 : decode cX1_reads 24 = .ok (.istore_n 3, 1) := by decide +kernel
theorem dX1_reads_25 : decode cX1_reads 25 = .ok (.iload_n 3, 1) := by decide +kernel
theorem dX1_reads_26 : decode cX1_reads 26 = .ok (.iconst 3, 1) := by decide +kernel
theorem dX1_reads_27 : decode cX1_reads 27 = .ok (.if_icmp .ge 52, 3) := by decide +kernel
theorem dX1_reads_30 : decode cX1_reads 30 = .ok (.iload_n 3, 1) := by decide +kernel
theorem dX1_reads_31 : decode cX1_reads 31 = .ok (.iconst 1, 1) := by decide +kernel
theorem dX1_reads_32 : decode cX1_reads 32 = .ok (.if_icmp .ne 11, 3) := by decide +kernel
theorem dX1_reads_35 : decode cX1_reads 35 = .ok (.aload_n 0, 1) := by decide +kernel
theorem dX1_reads_36 : decode cX1_reads 36 = .ok (.getfield 25, 3) := by decide +kernel
theorem dX1_reads_39 : decode cX1_reads 39 = .ok (.istore_n 1, 1) := by decide +kernel
theorem dX1_reads_40 : decode cX1_reads 40 = .ok (.goto 13, 3) := by decide +kernel
theorem dX1_reads_43 : decode cX1_reads 43 = .ok (.iload_n 3, 1) := by decide +kernel
theorem dX1_reads_44 : decode cX1_reads 44 = .ok (.iconst 2, 1) := by decide +kernel
theorem dX1_reads_45 : decode cX1_reads 45 = .ok (.if_icmp .ne 8, 3) := by decide +kernel
theorem dX1_reads_48 : decode cX1_reads 48 = .ok (.aload_n 0, 1) := by decide +kernel
theorem dX1_reads_49 : decode cX1_reads 49 = .ok (.getfield 25, 3) := by decide +kernel
theorem dX1_reads_52 : decode cX1_reads 52 = .ok (.istore_n 2, 1) := by decide +kernel
theorem dX1_reads_53 : decode cX1_reads 53 = .ok (.aload_n 0, 1) := by decide +kernel
theorem dX1_reads_54 : decode cX1_reads 54 = .ok (.bipush 6, 2) := by decide +kernel
theorem dX1_reads_56 : decode cX1_reads 56 = .ok (.iload_n 3, 1) := by decide +kernel
theorem dX1_reads_57 : decode cX1_reads 57 = .ok (.iadd, 1) := by decide +kernel
theorem dX1_reads_58 : decode cX1_reads 58 = .ok (.invokevirtual 43, 3) := by decide +kernel
theorem dX1_reads_61 : decode cX1_reads 61 = .ok (.aload_n 0, 1) := by decide +kernel
theorem dX1_reads_62 : decode cX1_reads 62 = .ok (.iconst 0, 1) := by decide +kernel
theorem dX1_reads_63 : decode cX1_reads 63 = .ok (.iconst 0, 1) := by decide +kernel
theorem dX1_reads_64 : decode cX1_reads 64 = .ok (.invokevirtual 47, 3) := by decide +kernel
theorem dX1_reads_67 : decode cX1_reads 67 = .ok (.aload_n 0, 1) := by decide +kernel
theorem dX1_reads_68 : decode cX1_reads 68 = .ok (.bipush 14, 2) := by decide +kernel
theorem dX1_reads_70 : decode cX1_reads 70 = .ok (.invokevirtual 43, 3) := by decide +kernel
theorem dX1_reads_73 : decode cX1_reads 73 = .ok (.iinc 3 1, 3) := by decide +kernel
theorem dX1_reads_76 : decode cX1_reads 76 = .ok (.goto (-51), 3) := by decide +kernel
theorem dX1_reads_79 : decode cX1_reads 79 = .ok (.aload_n 0, 1) := by decide +kernel
theorem dX1_reads_80 : decode cX1_reads 80 = .ok (.bipush 21, 2) := by decide +kernel
theorem dX1_reads_82 : decode cX1_reads 82 = .ok (.invokevirtual 43, 3) := by decide +kernel
theorem dX1_reads_85 : decode cX1_reads 85 = .ok (.aload_n 0, 1) := by decide +kernel
theorem dX1_reads_86 : decode cX1_reads 86 = .ok (.getfield 19, 3) := by decide +kernel
theorem dX1_reads_89 : decode cX1_reads 89 = .ok (.iconst (-1), 1) := by decide +kernel
theorem dX1_reads_90 : decode cX1_reads 90 = .ok (.if_icmp .eq 5, 3) := by decide +kernel
theorem dX1_reads_93 : decode cX1_reads 93 = .ok (.aconst_null, 1) := by decide +kernel
theorem dX1_reads_94 : decode cX1_reads 94 = .ok (.areturn, 1) := by decide +kernel
theorem dX1_reads_95 : decode cX1_reads 95 = .ok (.new 51, 3) := by decide +kernel
theorem dX1_reads_98 : decode cX1_reads 98 = .ok (.dup, 1) := by decide +kernel
theorem dX1_reads_99 : decode cX1_reads 99 = .ok (.aload_n 0, 1) := by decide +kernel
theorem dX1_reads_100 : decode cX1_reads 100 = .ok (.getfield 22, 3) := by decide +kernel
theorem dX1_reads_103 : decode cX1_reads 103 = .ok (.aload_n 0, 1) := by decide +kernel
theorem dX1_reads_104 : decode cX1_reads 104 = .ok (.getfield 25, 3) := by decide +kernel
theorem dX1_reads_107 : decode cX1_reads 107 = .ok (.invokestatic 53, 3) := by decide +kernel
theorem dX1_reads_110 : decode cX1_reads 110 = .ok (.iload_n 1, 1) := by decide +kernel
theorem dX1_reads_111 : decode cX1_reads 111 = .ok (.iload_n 2, 1) := by decide +kernel
theorem dX1_reads_112 : decode cX1_reads 112 = .ok (.invokespecial 59, 3) := by decide +kernel
theorem dX1_reads_115 : decode cX1_reads 115 = .ok (.areturn, 1) := by decide +kernel
theorem dX1_wants_0 : decode cX1_wants 0 = .ok (.aload_n 0, 1) := by decide +kernel
theorem dX1_wants_1 : decode cX1_wants 1 = .ok (.getfield 19, 3) := by decide +kernel
theorem dX1_wants_4 : decode cX1_wants 4 = .ok (.iconst (-1), 1) := by decide +kernel
theorem dX1_wants_5 : decode cX1_wants 5 = .ok (.if_icmp .eq 4, 3) := by decide +kernel
theorem dX1_wants_8 : decode cX1_wants 8 = .ok (.return_, 1) := by decide +kernel
theorem dX1_wants_9 : decode cX1_wants 9 = .ok (.aload_n 0, 1) := by decide +kernel
theorem dX1_wants_10 : decode cX1_wants 10 = .ok (.getfield 34, 3) := by decide +kernel
theorem dX1_wants_13 : decode cX1_wants 13 = .ok (.iload_n 1, 1) := by decide +kernel
theorem dX1_wants_14 : decode cX1_wants 14 = .ok (.if_icmp .ne 10, 3) := by decide +kernel
theorem dX1_wants_17 : decode cX1_wants 17 = .ok (.aload_n 0, 1) := by decide +kernel
theorem dX1_wants_18 : decode cX1_wants 18 = .ok (.invokevirtual 40, 3) := by decide +kernel
theorem dX1_wants_21 : decode cX1_wants 21 = .ok (.goto 11, 3) := by decide +kernel
theorem dX1_wants_24 : decode cX1_wants 24 = .ok (.aload_n 0, 1) := by decide +kernel
theorem dX1_wants_25 : decode cX1_wants 25 = .ok (.aload_n 0, 1) := by decide +kernel
theorem dX1_wants_26 : decode cX1_wants 26 = .ok (.getfield 31, 3) := by decide +kernel
theorem dX1_wants_29 : decode cX1_wants 29 = .ok (.putfield 19, 3) := by decide +kernel
theorem dX1_wants_32 : decode cX1_wants 32 = .ok (.return_, 1) := by decide +kernel
theorem dX1_readsFrom_0 : decode cX1_readsFrom 0 = .ok (.aload_n 0, 1) := by decide +kernel
theorem dX1_readsFrom_1 : decode cX1_readsFrom 1 = .ok (.getfield 19, 3) := by decide +kernel
theorem dX1_readsFrom_4 : decode cX1_readsFrom 4 = .ok (.iconst (-1), 1) := by decide +kernel
theorem dX1_readsFrom_5 : decode cX1_readsFrom 5 = .ok (.if_icmp .eq 4, 3) := by decide +kernel
theorem dX1_readsFrom_8 : decode cX1_readsFrom 8 = .ok (.return_, 1) := by decide +kernel
theorem dX1_readsFrom_9 : decode cX1_readsFrom 9 = .ok (.iload_n 1, 1) := by decide +kernel
theorem dX1_readsFrom_10 : decode cX1_readsFrom 10 = .ok (.iconst 5, 1) := by decide +kernel
theorem dX1_readsFrom_11 : decode cX1_readsFrom 11 = .ok (.if_icmp .lt 9, 3) := by decide +kernel
theorem dX1_readsFrom_14 : decode cX1_readsFrom 14 = .ok (.aload_n 0, 1) := by decide +kernel
theorem dX1_readsFrom_15 : decode cX1_readsFrom 15 = .ok (.iload_n 2, 1) := by decide +kernel
theorem dX1_readsFrom_16 : decode cX1_readsFrom 16 = .ok (.invokevirtual 62, 3) := by decide +kernel
theorem dX1_readsFrom_19 : decode cX1_readsFrom 19 = .ok (.return_, 1) := by decide +kernel
theorem dX1_readsFrom_20 : decode cX1_readsFrom 20 = .ok (.iload_n 1, 1) := by decide +kernel
theorem dX1_readsFrom_21 : decode cX1_readsFrom 21 = .ok (.iconst 2, 1) := by decide +kernel
theorem dX1_readsFrom_22 : decode cX1_readsFrom 22 = .ok (.if_icmp .ne 21, 3) := by decide +kernel
theorem dX1_readsFrom_25 : decode cX1_readsFrom 25 = .ok (.aload_n 0, 1) := by decide +kernel
theorem dX1_readsFrom_26 : decode cX1_readsFrom 26 = .ok (.getfield 34, 3) := by decide +kernel
theorem dX1_readsFrom_29 : decode cX1_readsFrom 29 = .ok (.bipush 11, 2) := by decide +kernel
theorem dX1_readsFrom_31 : decode cX1_readsFrom 31 = .ok (.if_icmp .ne 12, 3) := by decide +kernel
theorem dX1_readsFrom_34 : decode cX1_readsFrom 34 = .ok (.aload_n 0, 1) := by decide +kernel
theorem dX1_readsFrom_35 : decode cX1_readsFrom 35 = .ok (.iconst 2, 1) := by decide +kernel
theorem dX1_readsFrom_36 : decode cX1_readsFrom 36 = .ok (.iload_n 2, 1) := by decide +kernel
theorem dX1_readsFrom_37 : decode cX1_readsFrom 37 = .ok (.bipush 11, 2) := by decide +kernel
theorem dX1_readsFrom_39 : decode cX1_readsFrom 39 = .ok (.invokevirtual 65, 3) := by decide +kernel
theorem dX1_readsFrom_42 : decode cX1_readsFrom 42 = .ok (.return_, 1) := by decide +kernel
theorem dX1_readsFrom_43 : decode cX1_readsFrom 43 = .ok (.aload_n 0, 1) := by decide +kernel
theorem dX1_readsFrom_44 : decode cX1_readsFrom 44 = .ok (.iload_n 1, 1) := by decide +kernel
theorem dX1_readsFrom_45 : decode cX1_readsFrom 45 = .ok (.iconst 1, 1) := by decide +kernel
theorem dX1_readsFrom_46 : decode cX1_readsFrom 46 = .ok (.iadd, 1) := by decide +kernel
theorem dX1_readsFrom_47 : decode cX1_readsFrom 47 = .ok (.iload_n 2, 1) := by decide +kernel
theorem dX1_readsFrom_48 : decode cX1_readsFrom 48 = .ok (.invokevirtual 47, 3) := by decide +kernel
theorem dX1_readsFrom_51 : decode cX1_readsFrom 51 = .ok (.iload_n 1, 1) := by decide +kernel
theorem dX1_readsFrom_52 : decode cX1_readsFrom 52 = .ok (.iconst 2, 1) := by decide +kernel
theorem dX1_readsFrom_53 : decode cX1_readsFrom 53 = .ok (.if_icmp .ne 7, 3) := by decide +kernel
theorem dX1_readsFrom_56 : decode cX1_readsFrom 56 = .ok (.iconst 1, 1) := by decide +kernel
theorem dX1_readsFrom_57 : decode cX1_readsFrom 57 = .ok (.goto 6, 3) := by decide +kernel
theorem dX1_readsFrom_60 : decode cX1_readsFrom 60 = .ok (.sipush 160, 3) := by decide +kernel
theorem dX1_readsFrom_63 : decode cX1_readsFrom 63 = .ok (.istore_n 3, 1) := by decide +kernel
theorem dX1_readsFrom_64 : decode cX1_readsFrom 64 = .ok (.iconst 0, 1) := by decide +kernel
theorem dX1_readsFrom_65 : decode cX1_readsFrom 65 = .ok (.istore 4, 2) := by decide +kernel
theorem dX1_readsFrom_67 : decode cX1_readsFrom 67 = .ok (.iload 4, 2) := by decide +kernel
theorem dX1_readsFrom_69 : decode cX1_readsFrom 69 = .ok (.iload_n 3, 1) := by decide +kernel
theorem dX1_readsFrom_70 : decode cX1_readsFrom 70 = .ok (.if_icmp .ge 54, 3) := by decide +kernel
theorem dX1_readsFrom_73 : decode cX1_readsFrom 73 = .ok (.aload_n 0, 1) := by decide +kernel
theorem dX1_readsFrom_74 : decode cX1_readsFrom 74 = .ok (.getfield 19, 3) := by decide +kernel
theorem dX1_readsFrom_77 : decode cX1_readsFrom 77 = .ok (.iconst (-1), 1) := by decide +kernel
theorem dX1_readsFrom_78 : decode cX1_readsFrom 78 = .ok (.if_icmp .ne 46, 3) := by decide +kernel
theorem dX1_readsFrom_81 : decode cX1_readsFrom 81 = .ok (.aload_n 0, 1) := by decide +kernel
theorem dX1_readsFrom_82 : decode cX1_readsFrom 82 = .ok (.getfield 34, 3) := by decide +kernel
theorem dX1_readsFrom_85 : decode cX1_readsFrom 85 = .ok (.invokestatic 69, 3) := by decide +kernel
theorem dX1_readsFrom_88 : decode cX1_readsFrom 88 = .ok (.iload_n 1, 1) := by decide +kernel
theorem dX1_readsFrom_89 : decode cX1_readsFrom 89 = .ok (.if_icmp .ne 35, 3) := by decide +kernel
theorem dX1_readsFrom_92 : decode cX1_readsFrom 92 = .ok (.aload_n 0, 1) := by decide +kernel
theorem dX1_readsFrom_93 : decode cX1_readsFrom 93 = .ok (.getfield 34, 3) := by decide +kernel
theorem dX1_readsFrom_96 : decode cX1_readsFrom 96 = .ok (.istore 5, 2) := by decide +kernel
theorem dX1_readsFrom_98 : decode cX1_readsFrom 98 = .ok (.aload_n 0, 1) := by decide +kernel
theorem dX1_readsFrom_99 : decode cX1_readsFrom 99 = .ok (.invokevirtual 40, 3) := by decide +kernel
theorem dX1_readsFrom_102 : decode cX1_readsFrom 102 = .ok (.aload_n 0, 1) := by decide +kernel
theorem dX1_readsFrom_103 : decode cX1_readsFrom 103 = .ok (.iload_n 1, 1) := by decide +kernel
theorem dX1_readsFrom_104 : decode cX1_readsFrom 104 = .ok (.iconst 1, 1) := by decide +kernel
theorem dX1_readsFrom_105 : decode cX1_readsFrom 105 = .ok (.iadd, 1) := by decide +kernel
theorem dX1_readsFrom_106 : decode cX1_readsFrom 106 = .ok (.iload_n 2, 1) := by decide +kernel
theorem dX1_readsFrom_107 : decode cX1_readsFrom 107 = .ok (.invokevirtual 47, 3) := by decide +kernel
theorem dX1_readsFrom_110 : decode cX1_readsFrom 110 = .ok (.aload_n 0, 1) := by decide +kernel
theorem dX1_readsFrom_111 : decode cX1_readsFrom 111 = .ok (.iconst (-1), 1) := by decide +kernel
theorem dX1_readsFrom_112 : decode cX1_readsFrom 112 = .ok (.iload 5, 2) := by decide +kernel
theorem dX1_readsFrom_114 : decode cX1_readsFrom 114 = .ok (.isub, 1) := by decide +kernel
theorem dX1_readsFrom_115 : decode cX1_readsFrom 115 = .ok (.invokevirtual 73, 3) := by decide +kernel
theorem dX1_readsFrom_118 : decode cX1_readsFrom 118 = .ok (.iinc 4 1, 3) := by decide +kernel
theorem dX1_readsFrom_121 : decode cX1_readsFrom 121 = .ok (.goto (-54), 3) := by decide +kernel
theorem dX1_readsFrom_124 : decode cX1_readsFrom 124 = .ok (.return_, 1) := by decide +kernel
theorem dX1_readsOne_0 : decode cX1_readsOne 0 = .ok (.aload_n 0, 1) := by decide +kernel
theorem dX1_readsOne_1 : decode cX1_readsOne 1 = .ok (.getfield 34, 3) := by decide +kernel
theorem dX1_readsOne_4 : decode cX1_readsOne 4 = .ok (.bipush 20, 2) := by decide +kernel
theorem dX1_readsOne_6 : decode cX1_readsOne 6 = .ok (.if_icmp .ne 18, 3) := by decide +kernel
theorem dX1_readsOne_9 : decode cX1_readsOne 9 = .ok (.aload_n 0, 1) := by decide +kernel
theorem dX1_readsOne_10 : decode cX1_readsOne 10 = .ok (.aload_n 0, 1) := by decide +kernel
theorem dX1_readsOne_11 : decode cX1_readsOne 11 = .ok (.getfield 37, 3) := by decide +kernel
theorem dX1_readsOne_14 : decode cX1_readsOne 14 = .ok (.invokevirtual 73, 3) := by decide +kernel
theorem dX1_readsOne_17 : decode cX1_readsOne 17 = .ok (.aload_n 0, 1) := by decide +kernel
theorem dX1_readsOne_18 : decode cX1_readsOne 18 = .ok (.invokevirtual 40, 3) := by decide +kernel
theorem dX1_readsOne_21 : decode cX1_readsOne 21 = .ok (.goto 92, 3) := by decide +kernel
theorem dX1_readsOne_24 : decode cX1_readsOne 24 = .ok (.aload_n 0, 1) := by decide +kernel
theorem dX1_readsOne_25 : decode cX1_readsOne 25 = .ok (.getfield 34, 3) := by decide +kernel
theorem dX1_readsOne_28 : decode cX1_readsOne 28 = .ok (.bipush 6, 2) := by decide +kernel
theorem dX1_readsOne_30 : decode cX1_readsOne 30 = .ok (.if_icmp .ge 20, 3) := by decide +kernel
theorem dX1_readsOne_33 : decode cX1_readsOne 33 = .ok (.aload_n 0, 1) := by decide +kernel
theorem dX1_readsOne_34 : decode cX1_readsOne 34 = .ok (.iconst (-1), 1) := by decide +kernel
theorem dX1_readsOne_35 : decode cX1_readsOne 35 = .ok (.aload_n 0, 1) := by decide +kernel
theorem dX1_readsOne_36 : decode cX1_readsOne 36 = .ok (.getfield 34, 3) := by decide +kernel
theorem dX1_readsOne_39 : decode cX1_readsOne 39 = .ok (.isub, 1) := by decide +kernel
theorem dX1_readsOne_40 : decode cX1_readsOne 40 = .ok (.invokevirtual 73, 3) := by decide +kernel
theorem dX1_readsOne_43 : decode cX1_readsOne 43 = .ok (.aload_n 0, 1) := by decide +kernel
theorem dX1_readsOne_44 : decode cX1_readsOne 44 = .ok (.invokevirtual 40, 3) := by decide +kernel
theorem dX1_readsOne_47 : decode cX1_readsOne 47 = .ok (.goto 66, 3) := by decide +kernel
theorem dX1_readsOne_50 : decode cX1_readsOne 50 = .ok (.aload_n 0, 1) := by decide +kernel
theorem dX1_readsOne_51 : decode cX1_readsOne 51 = .ok (.getfield 34, 3) := by decide +kernel
theorem dX1_readsOne_54 : decode cX1_readsOne 54 = .ok (.bipush 16, 2) := by decide +kernel
theorem dX1_readsOne_56 : decode cX1_readsOne 56 = .ok (.if_icmp .ne 14, 3) := by decide +kernel
theorem dX1_readsOne_59 : decode cX1_readsOne 59 = .ok (.aload_n 0, 1) := by decide +kernel
theorem dX1_readsOne_60 : decode cX1_readsOne 60 = .ok (.iconst 5, 1) := by decide +kernel
theorem dX1_readsOne_61 : decode cX1_readsOne 61 = .ok (.iload_n 1, 1) := by decide +kernel
theorem dX1_readsOne_62 : decode cX1_readsOne 62 = .ok (.bipush 23, 2) := by decide +kernel
theorem dX1_readsOne_64 : decode cX1_readsOne 64 = .ok (.invokevirtual 65, 3) := by decide +kernel
theorem dX1_readsOne_67 : decode cX1_readsOne 67 = .ok (.goto 46, 3) := by decide +kernel
theorem dX1_readsOne_70 : decode cX1_readsOne 70 = .ok (.aload_n 0, 1) := by decide +kernel
theorem dX1_readsOne_71 : decode cX1_readsOne 71 = .ok (.getfield 34, 3) := by decide +kernel
theorem dX1_readsOne_74 : decode cX1_readsOne 74 = .ok (.bipush 12, 2) := by decide +kernel
theorem dX1_readsOne_76 : decode cX1_readsOne 76 = .ok (.if_icmp .ne 29, 3) := by decide +kernel
theorem dX1_readsOne_79 : decode cX1_readsOne 79 = .ok (.iload_n 1, 1) := by decide +kernel
theorem dX1_readsOne_80 : decode cX1_readsOne 80 = .ok (.iconst 5, 1) := by decide +kernel
theorem dX1_readsOne_81 : decode cX1_readsOne 81 = .ok (.if_icmp .ge 24, 3) := by decide +kernel
theorem dX1_readsOne_84 : decode cX1_readsOne 84 = .ok (.aload_n 0, 1) := by decide +kernel
theorem dX1_readsOne_85 : decode cX1_readsOne 85 = .ok (.invokevirtual 40, 3) := by decide +kernel
theorem dX1_readsOne_88 : decode cX1_readsOne 88 = .ok (.aload_n 0, 1) := by decide +kernel
theorem dX1_readsOne_89 : decode cX1_readsOne 89 = .ok (.iconst 0, 1) := by decide +kernel
theorem dX1_readsOne_90 : decode cX1_readsOne 90 = .ok (.iload_n 1, 1) := by decide +kernel
theorem dX1_readsOne_91 : decode cX1_readsOne 91 = .ok (.iconst 1, 1) := by decide +kernel
theorem dX1_readsOne_92 : decode cX1_readsOne 92 = .ok (.iadd, 1) := by decide +kernel
theorem dX1_readsOne_93 : decode cX1_readsOne 93 = .ok (.invokevirtual 47, 3) := by decide +kernel
theorem dX1_readsOne_96 : decode cX1_readsOne 96 = .ok (.aload_n 0, 1) := by decide +kernel
theorem dX1_readsOne_97 : decode cX1_readsOne 97 = .ok (.bipush 13, 2) := by decide +kernel
theorem dX1_readsOne_99 : decode cX1_readsOne 99 = .ok (.invokevirtual 43, 3) := by decide +kernel
theorem dX1_readsOne_102 : decode cX1_readsOne 102 = .ok (.goto 11, 3) := by decide +kernel
theorem dX1_readsOne_105 : decode cX1_readsOne 105 = .ok (.aload_n 0, 1) := by decide +kernel
theorem dX1_readsOne_106 : decode cX1_readsOne 106 = .ok (.aload_n 0, 1) := by decide +kernel
theorem dX1_readsOne_107 : decode cX1_readsOne 107 = .ok (.getfield 31, 3) := by decide +kernel
theorem dX1_readsOne_110 : decode cX1_readsOne 110 = .ok (.putfield 19, 3) := by decide +kernel
theorem dX1_readsOne_113 : decode cX1_readsOne 113 = .ok (.return_, 1) := by decide +kernel
theorem dX1_readsBehind_0 : decode cX1_readsBehind 0 = .ok (.iload_n 2, 1) := by decide +kernel
theorem dX1_readsBehind_1 : decode cX1_readsBehind 1 = .ok (.iconst 5, 1) := by decide +kernel
theorem dX1_readsBehind_2 : decode cX1_readsBehind 2 = .ok (.if_icmp .lt 12, 3) := by decide +kernel
theorem dX1_readsBehind_5 : decode cX1_readsBehind 5 = .ok (.aload_n 0, 1) := by decide +kernel
theorem dX1_readsBehind_6 : decode cX1_readsBehind 6 = .ok (.aload_n 0, 1) := by decide +kernel
theorem dX1_readsBehind_7 : decode cX1_readsBehind 7 = .ok (.getfield 31, 3) := by decide +kernel
theorem dX1_readsBehind_10 : decode cX1_readsBehind 10 = .ok (.putfield 19, 3) := by decide +kernel
theorem dX1_readsBehind_13 : decode cX1_readsBehind 13 = .ok (.return_, 1) := by decide +kernel
theorem dX1_readsBehind_14 : decode cX1_readsBehind 14 = .ok (.aload_n 0, 1) := by decide +kernel
theorem dX1_readsBehind_15 : decode cX1_readsBehind 15 = .ok (.invokevirtual 40, 3) := by decide +kernel
theorem dX1_readsBehind_18 : decode cX1_readsBehind 18 = .ok (.aload_n 0, 1) := by decide +kernel
theorem dX1_readsBehind_19 : decode cX1_readsBehind 19 = .ok (.iload_n 1, 1) := by decide +kernel
theorem dX1_readsBehind_20 : decode cX1_readsBehind 20 = .ok (.iload_n 2, 1) := by decide +kernel
theorem dX1_readsBehind_21 : decode cX1_readsBehind 21 = .ok (.iconst 1, 1) := by decide +kernel
theorem dX1_readsBehind_22 : decode cX1_readsBehind 22 = .ok (.iadd, 1) := by decide +kernel
theorem dX1_readsBehind_23 : decode cX1_readsBehind 23 = .ok (.invokevirtual 47, 3) := by decide +kernel
theorem dX1_readsBehind_26 : decode cX1_readsBehind 26 = .ok (.aload_n 0, 1) := by decide +kernel
theorem dX1_readsBehind_27 : decode cX1_readsBehind 27 = .ok (.iconst (-1), 1) := by decide +kernel
theorem dX1_readsBehind_28 : decode cX1_readsBehind 28 = .ok (.iload_n 3, 1) := by decide +kernel
theorem dX1_readsBehind_29 : decode cX1_readsBehind 29 = .ok (.isub, 1) := by decide +kernel
theorem dX1_readsBehind_30 : decode cX1_readsBehind 30 = .ok (.invokevirtual 73, 3) := by decide +kernel
theorem dX1_readsBehind_33 : decode cX1_readsBehind 33 = .ok (.return_, 1) := by decide +kernel
theorem dX1_levelJoinedBy_0 : decode cX1_levelJoinedBy 0 = .ok (.iload_n 0, 1) := by decide +kernel
theorem dX1_levelJoinedBy_1 : decode cX1_levelJoinedBy 1 = .ok (.tableswitch 69 9 19 #[59, 61, 69, 69, 69, 69, 65, 65, 67, 63, 63], 59) := by decide +kernel
theorem dX1_levelJoinedBy_60 : decode cX1_levelJoinedBy 60 = .ok (.iconst 0, 1) := by decide +kernel
theorem dX1_levelJoinedBy_61 : decode cX1_levelJoinedBy 61 = .ok (.ireturn, 1) := by decide +kernel
theorem dX1_levelJoinedBy_62 : decode cX1_levelJoinedBy 62 = .ok (.iconst 1, 1) := by decide +kernel
theorem dX1_levelJoinedBy_63 : decode cX1_levelJoinedBy 63 = .ok (.ireturn, 1) := by decide +kernel
theorem dX1_levelJoinedBy_64 : decode cX1_levelJoinedBy 64 = .ok (.iconst 2, 1) := by decide +kernel
theorem dX1_levelJoinedBy_65 : decode cX1_levelJoinedBy 65 = .ok (.ireturn, 1) := by decide +kernel
theorem dX1_levelJoinedBy_66 : decode cX1_levelJoinedBy 66 = .ok (.iconst 3, 1) := by decide +kernel
theorem dX1_levelJoinedBy_67 : decode cX1_levelJoinedBy 67 = .ok (.ireturn, 1) := by decide +kernel
theorem dX1_levelJoinedBy_68 : decode cX1_levelJoinedBy 68 = .ok (.iconst 4, 1) := by decide +kernel
theorem dX1_levelJoinedBy_69 : decode cX1_levelJoinedBy 69 = .ok (.ireturn, 1) := by decide +kernel
theorem dX1_levelJoinedBy_70 : decode cX1_levelJoinedBy 70 = .ok (.iconst (-1), 1) := by decide +kernel
theorem dX1_levelJoinedBy_71 : decode cX1_levelJoinedBy 71 = .ok (.ireturn, 1) := by decide +kernel
theorem dX1_puts_0 : decode cX1_puts 0 = .ok (.aload_n 0, 1) := by decide +kernel
theorem dX1_puts_1 : decode cX1_puts 1 = .ok (.getfield 25, 3) := by decide +kernel
theorem dX1_puts_4 : decode cX1_puts 4 = .ok (.aload_n 0, 1) := by decide +kernel
theorem dX1_puts_5 : decode cX1_puts 5 = .ok (.getfield 22, 3) := by decide +kernel
theorem dX1_puts_8 : decode cX1_puts 8 = .ok (.arraylength, 1) := by decide +kernel
theorem dX1_puts_9 : decode cX1_puts 9 = .ok (.if_icmp .ge 23, 3) := by decide +kernel
theorem dX1_puts_12 : decode cX1_puts 12 = .ok (.aload_n 0, 1) := by decide +kernel
theorem dX1_puts_13 : decode cX1_puts 13 = .ok (.getfield 22, 3) := by decide +kernel
theorem dX1_puts_16 : decode cX1_puts 16 = .ok (.aload_n 0, 1) := by decide +kernel
theorem dX1_puts_17 : decode cX1_puts 17 = .ok (.getfield 25, 3) := by decide +kernel
theorem dX1_puts_20 : decode cX1_puts 20 = .ok (.iload_n 1, 1) := by decide +kernel
theorem dX1_puts_21 : decode cX1_puts 21 = .ok (.iastore, 1) := by decide +kernel
theorem dX1_puts_22 : decode cX1_puts 22 = .ok (.aload_n 0, 1) := by decide +kernel
theorem dX1_puts_23 : decode cX1_puts 23 = .ok (.dup, 1) := by decide +kernel
theorem dX1_puts_24 : decode cX1_puts 24 = .ok (.getfield 25, 3) := by decide +kernel
theorem dX1_puts_27 : decode cX1_puts 27 = .ok (.iconst 1, 1) := by decide +kernel
theorem dX1_puts_28 : decode cX1_puts 28 = .ok (.iadd, 1) := by decide +kernel
theorem dX1_puts_29 : decode cX1_puts 29 = .ok (.putfield 25, 3) := by decide +kernel
theorem dX1_puts_32 : decode cX1_puts 32 = .ok (.return_, 1) := by decide +kernel
theorem dX1_goesOn_0 : decode cX1_goesOn 0 = .ok (.aload_n 0, 1) := by decide +kernel
theorem dX1_goesOn_1 : decode cX1_goesOn 1 = .ok (.getfield 28, 3) := by decide +kernel
theorem dX1_goesOn_4 : decode cX1_goesOn 4 = .ok (.aload_n 0, 1) := by decide +kernel
theorem dX1_goesOn_5 : decode cX1_goesOn 5 = .ok (.getfield 15, 3) := by decide +kernel
theorem dX1_goesOn_8 : decode cX1_goesOn 8 = .ok (.if_icmp .ge 44, 3) := by decide +kernel
theorem dX1_goesOn_11 : decode cX1_goesOn 11 = .ok (.aload_n 0, 1) := by decide +kernel
theorem dX1_goesOn_12 : decode cX1_goesOn 12 = .ok (.getfield 9, 3) := by decide +kernel
theorem dX1_goesOn_15 : decode cX1_goesOn 15 = .ok (.aload_n 0, 1) := by decide +kernel
theorem dX1_goesOn_16 : decode cX1_goesOn 16 = .ok (.getfield 28, 3) := by decide +kernel
theorem dX1_goesOn_19 : decode cX1_goesOn 19 = .ok (.iaload, 1) := by decide +kernel
theorem dX1_goesOn_20 : decode cX1_goesOn 20 = .ok (.bipush 32, 2) := by decide +kernel
theorem dX1_goesOn_22 : decode cX1_goesOn 22 = .ok (.if_icmp .eq 17, 3) := by decide +kernel
theorem dX1_goesOn_25 : decode cX1_goesOn 25 = .ok (.aload_n 0, 1) := by decide +kernel
theorem dX1_goesOn_26 : decode cX1_goesOn 26 = .ok (.getfield 9, 3) := by decide +kernel
theorem dX1_goesOn_29 : decode cX1_goesOn 29 = .ok (.aload_n 0, 1) := by decide +kernel
theorem dX1_goesOn_30 : decode cX1_goesOn 30 = .ok (.getfield 28, 3) := by decide +kernel
theorem dX1_goesOn_33 : decode cX1_goesOn 33 = .ok (.iaload, 1) := by decide +kernel
theorem dX1_goesOn_34 : decode cX1_goesOn 34 = .ok (.bipush 10, 2) := by decide +kernel
theorem dX1_goesOn_36 : decode cX1_goesOn 36 = .ok (.if_icmp .ne 16, 3) := by decide +kernel
theorem dX1_goesOn_39 : decode cX1_goesOn 39 = .ok (.aload_n 0, 1) := by decide +kernel
theorem dX1_goesOn_40 : decode cX1_goesOn 40 = .ok (.dup, 1) := by decide +kernel
theorem dX1_goesOn_41 : decode cX1_goesOn 41 = .ok (.getfield 28, 3) := by decide +kernel
theorem dX1_goesOn_44 : decode cX1_goesOn 44 = .ok (.iconst 1, 1) := by decide +kernel
theorem dX1_goesOn_45 : decode cX1_goesOn 45 = .ok (.iadd, 1) := by decide +kernel
theorem dX1_goesOn_46 : decode cX1_goesOn 46 = .ok (.putfield 28, 3) := by decide +kernel
theorem dX1_goesOn_49 : decode cX1_goesOn 49 = .ok (.goto (-49), 3) := by decide +kernel
theorem dX1_goesOn_52 : decode cX1_goesOn 52 = .ok (.aload_n 0, 1) := by decide +kernel
theorem dX1_goesOn_53 : decode cX1_goesOn 53 = .ok (.aload_n 0, 1) := by decide +kernel
theorem dX1_goesOn_54 : decode cX1_goesOn 54 = .ok (.getfield 28, 3) := by decide +kernel
theorem dX1_goesOn_57 : decode cX1_goesOn 57 = .ok (.putfield 31, 3) := by decide +kernel
theorem dX1_goesOn_60 : decode cX1_goesOn 60 = .ok (.aload_n 0, 1) := by decide +kernel
theorem dX1_goesOn_61 : decode cX1_goesOn 61 = .ok (.getfield 28, 3) := by decide +kernel
theorem dX1_goesOn_64 : decode cX1_goesOn 64 = .ok (.aload_n 0, 1) := by decide +kernel
theorem dX1_goesOn_65 : decode cX1_goesOn 65 = .ok (.getfield 15, 3) := by decide +kernel
theorem dX1_goesOn_68 : decode cX1_goesOn 68 = .ok (.if_icmp .lt 12, 3) := by decide +kernel
theorem dX1_goesOn_71 : decode cX1_goesOn 71 = .ok (.aload_n 0, 1) := by decide +kernel
theorem dX1_goesOn_72 : decode cX1_goesOn 72 = .ok (.bipush 21, 2) := by decide +kernel
theorem dX1_goesOn_74 : decode cX1_goesOn 74 = .ok (.putfield 34, 3) := by decide +kernel
theorem dX1_goesOn_77 : decode cX1_goesOn 77 = .ok (.goto 176, 3) := by decide +kernel
theorem dX1_goesOn_80 : decode cX1_goesOn 80 = .ok (.aload_n 0, 1) := by decide +kernel
theorem dX1_goesOn_81 : decode cX1_goesOn 81 = .ok (.getfield 9, 3) := by decide +kernel
theorem dX1_goesOn_84 : decode cX1_goesOn 84 = .ok (.aload_n 0, 1) := by decide +kernel
theorem dX1_goesOn_85 : decode cX1_goesOn 85 = .ok (.getfield 28, 3) := by decide +kernel
theorem dX1_goesOn_88 : decode cX1_goesOn 88 = .ok (.iaload, 1) := by decide +kernel
theorem dX1_goesOn_89 : decode cX1_goesOn 89 = .ok (.invokestatic 78, 3) := by decide +kernel
theorem dX1_goesOn_92 : decode cX1_goesOn 92 = .ok (.ifCond .eq 53, 3) := by decide +kernel
theorem dX1_goesOn_95 : decode cX1_goesOn 95 = .ok (.aload_n 0, 1) := by decide +kernel
theorem dX1_goesOn_96 : decode cX1_goesOn 96 = .ok (.getfield 28, 3) := by decide +kernel
theorem dX1_goesOn_99 : decode cX1_goesOn 99 = .ok (.aload_n 0, 1) := by decide +kernel
theorem dX1_goesOn_100 : decode cX1_goesOn 100 = .ok (.getfield 15, 3) := by decide +kernel
theorem dX1_goesOn_103 : decode cX1_goesOn 103 = .ok (.if_icmp .ge 31, 3) := by decide +kernel
theorem dX1_goesOn_106 : decode cX1_goesOn 106 = .ok (.aload_n 0, 1) := by decide +kernel
theorem dX1_goesOn_107 : decode cX1_goesOn 107 = .ok (.getfield 9, 3) := by decide +kernel
theorem dX1_goesOn_110 : decode cX1_goesOn 110 = .ok (.aload_n 0, 1) := by decide +kernel
theorem dX1_goesOn_111 : decode cX1_goesOn 111 = .ok (.getfield 28, 3) := by decide +kernel
theorem dX1_goesOn_114 : decode cX1_goesOn 114 = .ok (.iaload, 1) := by decide +kernel
theorem dX1_goesOn_115 : decode cX1_goesOn 115 = .ok (.invokestatic 78, 3) := by decide +kernel
theorem dX1_goesOn_118 : decode cX1_goesOn 118 = .ok (.ifCond .eq 16, 3) := by decide +kernel
theorem dX1_goesOn_121 : decode cX1_goesOn 121 = .ok (.aload_n 0, 1) := by decide +kernel
theorem dX1_goesOn_122 : decode cX1_goesOn 122 = .ok (.dup, 1) := by decide +kernel
theorem dX1_goesOn_123 : decode cX1_goesOn 123 = .ok (.getfield 28, 3) := by decide +kernel
theorem dX1_goesOn_126 : decode cX1_goesOn 126 = .ok (.iconst 1, 1) := by decide +kernel
theorem dX1_goesOn_127 : decode cX1_goesOn 127 = .ok (.iadd, 1) := by decide +kernel
theorem dX1_goesOn_128 : decode cX1_goesOn 128 = .ok (.putfield 28, 3) := by decide +kernel
theorem dX1_goesOn_131 : decode cX1_goesOn 131 = .ok (.goto (-36), 3) := by decide +kernel
theorem dX1_goesOn_134 : decode cX1_goesOn 134 = .ok (.aload_n 0, 1) := by decide +kernel
theorem dX1_goesOn_135 : decode cX1_goesOn 135 = .ok (.aload_n 0, 1) := by decide +kernel
theorem dX1_goesOn_136 : decode cX1_goesOn 136 = .ok (.invokevirtual 82, 3) := by decide +kernel
theorem dX1_goesOn_139 : decode cX1_goesOn 139 = .ok (.putfield 34, 3) := by decide +kernel
theorem dX1_goesOn_142 : decode cX1_goesOn 142 = .ok (.goto 111, 3) := by decide +kernel
theorem dX1_goesOn_145 : decode cX1_goesOn 145 = .ok (.aload_n 0, 1) := by decide +kernel
theorem dX1_goesOn_146 : decode cX1_goesOn 146 = .ok (.getfield 9, 3) := by decide +kernel
theorem dX1_goesOn_149 : decode cX1_goesOn 149 = .ok (.aload_n 0, 1) := by decide +kernel
theorem dX1_goesOn_150 : decode cX1_goesOn 150 = .ok (.getfield 28, 3) := by decide +kernel
theorem dX1_goesOn_153 : decode cX1_goesOn 153 = .ok (.iaload, 1) := by decide +kernel
theorem dX1_goesOn_154 : decode cX1_goesOn 154 = .ok (.invokestatic 86, 3) := by decide +kernel
theorem dX1_goesOn_157 : decode cX1_goesOn 157 = .ok (.ifCond .eq 53, 3) := by decide +kernel
theorem dX1_goesOn_160 : decode cX1_goesOn 160 = .ok (.aload_n 0, 1) := by decide +kernel
theorem dX1_goesOn_161 : decode cX1_goesOn 161 = .ok (.getfield 28, 3) := by decide +kernel
theorem dX1_goesOn_164 : decode cX1_goesOn 164 = .ok (.aload_n 0, 1) := by decide +kernel
theorem dX1_goesOn_165 : decode cX1_goesOn 165 = .ok (.getfield 15, 3) := by decide +kernel
theorem dX1_goesOn_168 : decode cX1_goesOn 168 = .ok (.if_icmp .ge 31, 3) := by decide +kernel
theorem dX1_goesOn_171 : decode cX1_goesOn 171 = .ok (.aload_n 0, 1) := by decide +kernel
theorem dX1_goesOn_172 : decode cX1_goesOn 172 = .ok (.getfield 9, 3) := by decide +kernel
theorem dX1_goesOn_175 : decode cX1_goesOn 175 = .ok (.aload_n 0, 1) := by decide +kernel
theorem dX1_goesOn_176 : decode cX1_goesOn 176 = .ok (.getfield 28, 3) := by decide +kernel
theorem dX1_goesOn_179 : decode cX1_goesOn 179 = .ok (.iaload, 1) := by decide +kernel
theorem dX1_goesOn_180 : decode cX1_goesOn 180 = .ok (.invokestatic 86, 3) := by decide +kernel
theorem dX1_goesOn_183 : decode cX1_goesOn 183 = .ok (.ifCond .eq 16, 3) := by decide +kernel
theorem dX1_goesOn_186 : decode cX1_goesOn 186 = .ok (.aload_n 0, 1) := by decide +kernel
theorem dX1_goesOn_187 : decode cX1_goesOn 187 = .ok (.dup, 1) := by decide +kernel
theorem dX1_goesOn_188 : decode cX1_goesOn 188 = .ok (.getfield 28, 3) := by decide +kernel
theorem dX1_goesOn_191 : decode cX1_goesOn 191 = .ok (.iconst 1, 1) := by decide +kernel
theorem dX1_goesOn_192 : decode cX1_goesOn 192 = .ok (.iadd, 1) := by decide +kernel
theorem dX1_goesOn_193 : decode cX1_goesOn 193 = .ok (.putfield 28, 3) := by decide +kernel
theorem dX1_goesOn_196 : decode cX1_goesOn 196 = .ok (.goto (-36), 3) := by decide +kernel
theorem dX1_goesOn_199 : decode cX1_goesOn 199 = .ok (.aload_n 0, 1) := by decide +kernel
theorem dX1_goesOn_200 : decode cX1_goesOn 200 = .ok (.aload_n 0, 1) := by decide +kernel
theorem dX1_goesOn_201 : decode cX1_goesOn 201 = .ok (.invokevirtual 89, 3) := by decide +kernel
theorem dX1_goesOn_204 : decode cX1_goesOn 204 = .ok (.putfield 34, 3) := by decide +kernel
theorem dX1_goesOn_207 : decode cX1_goesOn 207 = .ok (.goto 46, 3) := by decide +kernel
theorem dX1_goesOn_210 : decode cX1_goesOn 210 = .ok (.ldc 92, 2) := by decide +kernel
theorem dX1_goesOn_212 : decode cX1_goesOn 212 = .ok (.aload_n 0, 1) := by decide +kernel
theorem dX1_goesOn_213 : decode cX1_goesOn 213 = .ok (.getfield 9, 3) := by decide +kernel
theorem dX1_goesOn_216 : decode cX1_goesOn 216 = .ok (.aload_n 0, 1) := by decide +kernel
theorem dX1_goesOn_217 : decode cX1_goesOn 217 = .ok (.getfield 28, 3) := by decide +kernel
theorem dX1_goesOn_220 : decode cX1_goesOn 220 = .ok (.iaload, 1) := by decide +kernel
theorem dX1_goesOn_221 : decode cX1_goesOn 221 = .ok (.i2c, 1) := by decide +kernel
theorem dX1_goesOn_222 : decode cX1_goesOn 222 = .ok (.invokevirtual 94, 3) := by decide +kernel
theorem dX1_goesOn_225 : decode cX1_goesOn 225 = .ok (.istore_n 1, 1) := by decide +kernel
theorem dX1_goesOn_226 : decode cX1_goesOn 226 = .ok (.aload_n 0, 1) := by decide +kernel
theorem dX1_goesOn_227 : decode cX1_goesOn 227 = .ok (.iload_n 1, 1) := by decide +kernel
theorem dX1_goesOn_228 : decode cX1_goesOn 228 = .ok (.ifCond .lt 10, 3) := by decide +kernel
theorem dX1_goesOn_231 : decode cX1_goesOn 231 = .ok (.bipush 12, 2) := by decide +kernel
theorem dX1_goesOn_233 : decode cX1_goesOn 233 = .ok (.iload_n 1, 1) := by decide +kernel
theorem dX1_goesOn_234 : decode cX1_goesOn 234 = .ok (.iadd, 1) := by decide +kernel
theorem dX1_goesOn_235 : decode cX1_goesOn 235 = .ok (.goto 5, 3) := by decide +kernel
theorem dX1_goesOn_238 : decode cX1_goesOn 238 = .ok (.bipush 22, 2) := by decide +kernel
theorem dX1_goesOn_240 : decode cX1_goesOn 240 = .ok (.putfield 34, 3) := by decide +kernel
theorem dX1_goesOn_243 : decode cX1_goesOn 243 = .ok (.aload_n 0, 1) := by decide +kernel
theorem dX1_goesOn_244 : decode cX1_goesOn 244 = .ok (.dup, 1) := by decide +kernel
theorem dX1_goesOn_245 : decode cX1_goesOn 245 = .ok (.getfield 28, 3) := by decide +kernel
theorem dX1_goesOn_248 : decode cX1_goesOn 248 = .ok (.iconst 1, 1) := by decide +kernel
theorem dX1_goesOn_249 : decode cX1_goesOn 249 = .ok (.iadd, 1) := by decide +kernel
theorem dX1_goesOn_250 : decode cX1_goesOn 250 = .ok (.putfield 28, 3) := by decide +kernel
theorem dX1_goesOn_253 : decode cX1_goesOn 253 = .ok (.return_, 1) := by decide +kernel
theorem dX1_isLetter_0 : decode cX1_isLetter 0 = .ok (.iload_n 0, 1) := by decide +kernel
theorem dX1_isLetter_1 : decode cX1_isLetter 1 = .ok (.bipush 97, 2) := by decide +kernel
theorem dX1_isLetter_3 : decode cX1_isLetter 3 = .ok (.if_icmp .lt 13, 3) := by decide +kernel
theorem dX1_isLetter_6 : decode cX1_isLetter 6 = .ok (.iload_n 0, 1) := by decide +kernel
theorem dX1_isLetter_7 : decode cX1_isLetter 7 = .ok (.bipush 122, 2) := by decide +kernel
theorem dX1_isLetter_9 : decode cX1_isLetter 9 = .ok (.if_icmp .gt 7, 3) := by decide +kernel
theorem dX1_isLetter_12 : decode cX1_isLetter 12 = .ok (.iconst 1, 1) := by decide +kernel
theorem dX1_isLetter_13 : decode cX1_isLetter 13 = .ok (.goto 4, 3) := by decide +kernel
theorem dX1_isLetter_16 : decode cX1_isLetter 16 = .ok (.iconst 0, 1) := by decide +kernel
theorem dX1_isLetter_17 : decode cX1_isLetter 17 = .ok (.ireturn, 1) := by decide +kernel
theorem dX1_isDigit_0 : decode cX1_isDigit 0 = .ok (.iload_n 0, 1) := by decide +kernel
theorem dX1_isDigit_1 : decode cX1_isDigit 1 = .ok (.bipush 48, 2) := by decide +kernel
theorem dX1_isDigit_3 : decode cX1_isDigit 3 = .ok (.if_icmp .lt 13, 3) := by decide +kernel
theorem dX1_isDigit_6 : decode cX1_isDigit 6 = .ok (.iload_n 0, 1) := by decide +kernel
theorem dX1_isDigit_7 : decode cX1_isDigit 7 = .ok (.bipush 57, 2) := by decide +kernel
theorem dX1_isDigit_9 : decode cX1_isDigit 9 = .ok (.if_icmp .gt 7, 3) := by decide +kernel
theorem dX1_isDigit_12 : decode cX1_isDigit 12 = .ok (.iconst 1, 1) := by decide +kernel
theorem dX1_isDigit_13 : decode cX1_isDigit 13 = .ok (.goto 4, 3) := by decide +kernel
theorem dX1_isDigit_16 : decode cX1_isDigit 16 = .ok (.iconst 0, 1) := by decide +kernel
theorem dX1_isDigit_17 : decode cX1_isDigit 17 = .ok (.ireturn, 1) := by decide +kernel
theorem dX1_numberFromStart_0 : decode cX1_numberFromStart 0 = .ok (.aload_n 0, 1) := by decide +kernel
theorem dX1_numberFromStart_1 : decode cX1_numberFromStart 1 = .ok (.getfield 28, 3) := by decide +kernel
theorem dX1_numberFromStart_4 : decode cX1_numberFromStart 4 = .ok (.aload_n 0, 1) := by decide +kernel
theorem dX1_numberFromStart_5 : decode cX1_numberFromStart 5 = .ok (.getfield 31, 3) := by decide +kernel
theorem dX1_numberFromStart_8 : decode cX1_numberFromStart 8 = .ok (.isub, 1) := by decide +kernel
theorem dX1_numberFromStart_9 : decode cX1_numberFromStart 9 = .ok (.iconst 4, 1) := by decide +kernel
theorem dX1_numberFromStart_10 : decode cX1_numberFromStart 10 = .ok (.if_icmp .le 6, 3) := by decide +kernel
theorem dX1_numberFromStart_13 : decode cX1_numberFromStart 13 = .ok (.bipush 22, 2) := by decide +kernel
theorem dX1_numberFromStart_15 : decode cX1_numberFromStart 15 = .ok (.ireturn, 1) := by decide +kernel
theorem dX1_numberFromStart_16 : decode cX1_numberFromStart 16 = .ok (.aload_n 0, 1) := by decide +kernel
theorem dX1_numberFromStart_17 : decode cX1_numberFromStart 17 = .ok (.iconst 0, 1) := by decide +kernel
theorem dX1_numberFromStart_18 : decode cX1_numberFromStart 18 = .ok (.putfield 37, 3) := by decide +kernel
theorem dX1_numberFromStart_21 : decode cX1_numberFromStart 21 = .ok (.aload_n 0, 1) := by decide +kernel
theorem dX1_numberFromStart_22 : decode cX1_numberFromStart 22 = .ok (.getfield 31, 3) := by decide +kernel
theorem dX1_numberFromStart_25 : decode cX1_numberFromStart 25 = .ok (.istore_n 1, 1) := by decide +kernel
theorem dX1_numberFromStart_26 : decode cX1_numberFromStart 26 = .ok (.iload_n 1, 1) := by decide +kernel
theorem dX1_numberFromStart_27 : decode cX1_numberFromStart 27 = .ok (.aload_n 0, 1) := by decide +kernel
theorem dX1_numberFromStart_28 : decode cX1_numberFromStart 28 = .ok (.getfield 28, 3) := by decide +kernel
theorem dX1_numberFromStart_31 : decode cX1_numberFromStart 31 = .ok (.if_icmp .ge 30, 3) := by decide +kernel
theorem dX1_numberFromStart_34 : decode cX1_numberFromStart 34 = .ok (.aload_n 0, 1) := by decide +kernel
theorem dX1_numberFromStart_35 : decode cX1_numberFromStart 35 = .ok (.aload_n 0, 1) := by decide +kernel
theorem dX1_numberFromStart_36 : decode cX1_numberFromStart 36 = .ok (.getfield 37, 3) := by decide +kernel
theorem dX1_numberFromStart_39 : decode cX1_numberFromStart 39 = .ok (.bipush 10, 2) := by decide +kernel
theorem dX1_numberFromStart_41 : decode cX1_numberFromStart 41 = .ok (.imul, 1) := by decide +kernel
theorem dX1_numberFromStart_42 : decode cX1_numberFromStart 42 = .ok (.aload_n 0, 1) := by decide +kernel
theorem dX1_numberFromStart_43 : decode cX1_numberFromStart 43 = .ok (.getfield 9, 3) := by decide +kernel
theorem dX1_numberFromStart_46 : decode cX1_numberFromStart 46 = .ok (.iload_n 1, 1) := by decide +kernel
theorem dX1_numberFromStart_47 : decode cX1_numberFromStart 47 = .ok (.iaload, 1) := by decide +kernel
theorem dX1_numberFromStart_48 : decode cX1_numberFromStart 48 = .ok (.iadd, 1) := by decide +kernel
theorem dX1_numberFromStart_49 : decode cX1_numberFromStart 49 = .ok (.bipush 48, 2) := by decide +kernel
theorem dX1_numberFromStart_51 : decode cX1_numberFromStart 51 = .ok (.isub, 1) := by decide +kernel
theorem dX1_numberFromStart_52 : decode cX1_numberFromStart 52 = .ok (.putfield 37, 3) := by decide +kernel
theorem dX1_numberFromStart_55 : decode cX1_numberFromStart 55 = .ok (.iinc 1 1, 3) := by decide +kernel
theorem dX1_numberFromStart_58 : decode cX1_numberFromStart 58 = .ok (.goto (-32), 3) := by decide +kernel
theorem dX1_numberFromStart_61 : decode cX1_numberFromStart 61 = .ok (.bipush 20, 2) := by decide +kernel
theorem dX1_numberFromStart_63 : decode cX1_numberFromStart 63 = .ok (.ireturn, 1) := by decide +kernel
theorem dX1_wordFromStart_0 : decode cX1_wordFromStart 0 = .ok (.aload_n 0, 1) := by decide +kernel
theorem dX1_wordFromStart_1 : decode cX1_wordFromStart 1 = .ok (.getfield 28, 3) := by decide +kernel
theorem dX1_wordFromStart_4 : decode cX1_wordFromStart 4 = .ok (.aload_n 0, 1) := by decide +kernel
theorem dX1_wordFromStart_5 : decode cX1_wordFromStart 5 = .ok (.getfield 31, 3) := by decide +kernel
theorem dX1_wordFromStart_8 : decode cX1_wordFromStart 8 = .ok (.isub, 1) := by decide +kernel
theorem dX1_wordFromStart_9 : decode cX1_wordFromStart 9 = .ok (.istore_n 1, 1) := by decide +kernel
theorem dX1_wordFromStart_10 : decode cX1_wordFromStart 10 = .ok (.iload_n 1, 1) := by decide +kernel
theorem dX1_wordFromStart_11 : decode cX1_wordFromStart 11 = .ok (.bipush 8, 2) := by decide +kernel
theorem dX1_wordFromStart_13 : decode cX1_wordFromStart 13 = .ok (.if_icmp .lt 6, 3) := by decide +kernel
theorem dX1_wordFromStart_16 : decode cX1_wordFromStart 16 = .ok (.bipush 22, 2) := by decide +kernel
theorem dX1_wordFromStart_18 : decode cX1_wordFromStart 18 = .ok (.ireturn, 1) := by decide +kernel
theorem dX1_wordFromStart_19 : decode cX1_wordFromStart 19 = .ok (.iconst 0, 1) := by decide +kernel
theorem dX1_wordFromStart_20 : decode cX1_wordFromStart 20 = .ok (.istore_n 2, 1) := by decide +kernel
theorem dX1_wordFromStart_21 : decode cX1_wordFromStart 21 = .ok (.iload_n 2, 1) := by decide +kernel
theorem dX1_wordFromStart_22 : decode cX1_wordFromStart 22 = .ok (.bipush 12, 2) := by decide +kernel
theorem dX1_wordFromStart_24 : decode cX1_wordFromStart 24 = .ok (.if_icmp .ge 80, 3) := by decide +kernel
theorem dX1_wordFromStart_27 : decode cX1_wordFromStart 27 = .ok (.iload_n 2, 1) := by decide +kernel
theorem dX1_wordFromStart_28 : decode cX1_wordFromStart 28 = .ok (.bipush 8, 2) := by decide +kernel
theorem dX1_wordFromStart_30 : decode cX1_wordFromStart 30 = .ok (.imul, 1) := by decide +kernel
theorem dX1_wordFromStart_31 : decode cX1_wordFromStart 31 = .ok (.istore_n 3, 1) := by decide +kernel
theorem dX1_wordFromStart_32 : decode cX1_wordFromStart 32 = .ok (.iconst 0, 1) := by decide +kernel
theorem dX1_wordFromStart_33 : decode cX1_wordFromStart 33 = .ok (.istore 4, 2) := by decide +kernel
theorem dX1_wordFromStart_35 : decode cX1_wordFromStart 35 = .ok (.iconst 0, 1) := by decide +kernel
theorem dX1_wordFromStart_36 : decode cX1_wordFromStart 36 = .ok (.istore 5, 2) := by decide +kernel
theorem dX1_wordFromStart_38 : decode cX1_wordFromStart 38 = .ok (.iload 5, 2) := by decide +kernel
theorem dX1_wordFromStart_40 : decode cX1_wordFromStart 40 = .ok (.iload_n 1, 1) := by decide +kernel
theorem dX1_wordFromStart_41 : decode cX1_wordFromStart 41 = .ok (.if_icmp .ge 36, 3) := by decide +kernel
theorem dX1_wordFromStart_44 : decode cX1_wordFromStart 44 = .ok (.ldc 99, 2) := by decide +kernel
theorem dX1_wordFromStart_46 : decode cX1_wordFromStart 46 = .ok (.iload_n 3, 1) := by decide +kernel
theorem dX1_wordFromStart_47 : decode cX1_wordFromStart 47 = .ok (.iload 5, 2) := by decide +kernel
theorem dX1_wordFromStart_49 : decode cX1_wordFromStart 49 = .ok (.iadd, 1) := by decide +kernel
theorem dX1_wordFromStart_50 : decode cX1_wordFromStart 50 = .ok (.invokevirtual 101, 3) := by decide +kernel
theorem dX1_wordFromStart_53 : decode cX1_wordFromStart 53 = .ok (.aload_n 0, 1) := by decide +kernel
theorem dX1_wordFromStart_54 : decode cX1_wordFromStart 54 = .ok (.getfield 9, 3) := by decide +kernel
theorem dX1_wordFromStart_57 : decode cX1_wordFromStart 57 = .ok (.aload_n 0, 1) := by decide +kernel
theorem dX1_wordFromStart_58 : decode cX1_wordFromStart 58 = .ok (.getfield 31, 3) := by decide +kernel
theorem dX1_wordFromStart_61 : decode cX1_wordFromStart 61 = .ok (.iload 5, 2) := by decide +kernel
theorem dX1_wordFromStart_63 : decode cX1_wordFromStart 63 = .ok (.iadd, 1) := by decide +kernel
theorem dX1_wordFromStart_64 : decode cX1_wordFromStart 64 = .ok (.iaload, 1) := by decide +kernel
theorem dX1_wordFromStart_65 : decode cX1_wordFromStart 65 = .ok (.if_icmp .ne 6, 3) := by decide +kernel
theorem dX1_wordFromStart_68 : decode cX1_wordFromStart 68 = .ok (.iinc 4 1, 3) := by decide +kernel
theorem dX1_wordFromStart_71 : decode cX1_wordFromStart 71 = .ok (.iinc 5 1, 3) := by decide +kernel
theorem dX1_wordFromStart_74 : decode cX1_wordFromStart 74 = .ok (.goto (-36), 3) := by decide +kernel
theorem dX1_wordFromStart_77 : decode cX1_wordFromStart 77 = .ok (.iload 4, 2) := by decide +kernel
theorem dX1_wordFromStart_79 : decode cX1_wordFromStart 79 = .ok (.iload_n 1, 1) := by decide +kernel
theorem dX1_wordFromStart_80 : decode cX1_wordFromStart 80 = .ok (.if_icmp .ne 18, 3) := by decide +kernel
theorem dX1_wordFromStart_83 : decode cX1_wordFromStart 83 = .ok (.ldc 99, 2) := by decide +kernel
theorem dX1_wordFromStart_85 : decode cX1_wordFromStart 85 = .ok (.iload_n 3, 1) := by decide +kernel
theorem dX1_wordFromStart_86 : decode cX1_wordFromStart 86 = .ok (.iload_n 1, 1) := by decide +kernel
theorem dX1_wordFromStart_87 : decode cX1_wordFromStart 87 = .ok (.iadd, 1) := by decide +kernel
theorem dX1_wordFromStart_88 : decode cX1_wordFromStart 88 = .ok (.invokevirtual 101, 3) := by decide +kernel
theorem dX1_wordFromStart_91 : decode cX1_wordFromStart 91 = .ok (.bipush 32, 2) := by decide +kernel
theorem dX1_wordFromStart_93 : decode cX1_wordFromStart 93 = .ok (.if_icmp .ne 5, 3) := by decide +kernel
theorem dX1_wordFromStart_96 : decode cX1_wordFromStart 96 = .ok (.iload_n 2, 1) := by decide +kernel
theorem dX1_wordFromStart_97 : decode cX1_wordFromStart 97 = .ok (.ireturn, 1) := by decide +kernel
theorem dX1_wordFromStart_98 : decode cX1_wordFromStart 98 = .ok (.iinc 2 1, 3) := by decide +kernel
theorem dX1_wordFromStart_101 : decode cX1_wordFromStart 101 = .ok (.goto (-80), 3) := by decide +kernel
theorem dX1_wordFromStart_104 : decode cX1_wordFromStart 104 = .ok (.bipush 22, 2) := by decide +kernel
theorem dX1_wordFromStart_106 : decode cX1_wordFromStart 106 = .ok (.ireturn, 1) := by decide +kernel
theorem dX2_init_0 : decode cX2_init 0 = .ok (.aload_n 0, 1) := by decide +kernel
theorem dX2_init_1 : decode cX2_init 1 = .ok (.invokespecial 3, 3) := by decide +kernel
theorem dX2_init_4 : decode cX2_init 4 = .ok (.aload_n 0, 1) := by decide +kernel
theorem dX2_init_5 : decode cX2_init 5 = .ok (.bipush 40, 2) := by decide +kernel
theorem dX2_init_7 : decode cX2_init 7 = .ok (.newarray .int, 2) := by decide +kernel
theorem dX2_init_9 : decode cX2_init 9 = .ok (.putfield 9, 3) := by decide +kernel
theorem dX2_init_12 : decode cX2_init 12 = .ok (.aload_n 0, 1) := by decide +kernel
theorem dX2_init_13 : decode cX2_init 13 = .ok (.iconst (-1), 1) := by decide +kernel
theorem dX2_init_14 : decode cX2_init 14 = .ok (.putfield 15, 3) := by decide +kernel
theorem dX2_init_17 : decode cX2_init 17 = .ok (.aload_n 0, 1) := by decide +kernel
theorem dX2_init_18 : decode cX2_init 18 = .ok (.iconst 0, 1) := by decide +kernel
theorem dX2_init_19 : decode cX2_init 19 = .ok (.putfield 19, 3) := by decide +kernel
theorem dX2_init_22 : decode cX2_init 22 = .ok (.return_, 1) := by decide +kernel
theorem dX2_becomes_0 : decode cX2_becomes 0 = .ok (.aload_n 0, 1) := by decide +kernel
theorem dX2_becomes_1 : decode cX2_becomes 1 = .ok (.iload_n 1, 1) := by decide +kernel
theorem dX2_becomes_2 : decode cX2_becomes 2 = .ok (.putfield 15, 3) := by decide +kernel
theorem dX2_becomes_5 : decode cX2_becomes 5 = .ok (.aload_n 0, 1) := by decide +kernel
theorem dX2_becomes_6 : decode cX2_becomes 6 = .ok (.iload_n 2, 1) := by decide +kernel
theorem dX2_becomes_7 : decode cX2_becomes 7 = .ok (.putfield 19, 3) := by decide +kernel
theorem dX2_becomes_10 : decode cX2_becomes 10 = .ok (.aload_n 0, 1) := by decide +kernel
theorem dX2_becomes_11 : decode cX2_becomes 11 = .ok (.getfield 9, 3) := by decide +kernel
theorem dX2_becomes_14 : decode cX2_becomes 14 = .ok (.iconst 0, 1) := by decide +kernel
theorem dX2_becomes_15 : decode cX2_becomes 15 = .ok (.invokestatic 22, 3) := by decide +kernel
theorem dX2_becomes_18 : decode cX2_becomes 18 = .ok (.return_, 1) := by decide +kernel
theorem dX2_isMissing_0 : decode cX2_isMissing 0 = .ok (.aload_n 0, 1) := by decide +kernel
theorem dX2_isMissing_1 : decode cX2_isMissing 1 = .ok (.getfield 15, 3) := by decide +kernel
theorem dX2_isMissing_4 : decode cX2_isMissing 4 = .ok (.iconst (-1), 1) := by decide +kernel
theorem dX2_isMissing_5 : decode cX2_isMissing 5 = .ok (.if_icmp .ne 7, 3) := by decide +kernel
theorem dX2_isMissing_8 : decode cX2_isMissing 8 = .ok (.iconst 1, 1) := by decide +kernel
theorem dX2_isMissing_9 : decode cX2_isMissing 9 = .ok (.goto 4, 3) := by decide +kernel
theorem dX2_isMissing_12 : decode cX2_isMissing 12 = .ok (.iconst 0, 1) := by decide +kernel
theorem dX2_isMissing_13 : decode cX2_isMissing 13 = .ok (.ireturn, 1) := by decide +kernel
theorem dX2_has_0 : decode cX2_has 0 = .ok (.iload_n 1, 1) := by decide +kernel
theorem dX2_has_1 : decode cX2_has 1 = .ok (.ifCond .lt 29, 3) := by decide +kernel
theorem dX2_has_4 : decode cX2_has 4 = .ok (.iload_n 2, 1) := by decide +kernel
theorem dX2_has_5 : decode cX2_has 5 = .ok (.ifCond .lt 25, 3) := by decide +kernel
theorem dX2_has_8 : decode cX2_has 8 = .ok (.iload_n 1, 1) := by decide +kernel
theorem dX2_has_9 : decode cX2_has 9 = .ok (.aload_n 0, 1) := by decide +kernel
theorem dX2_has_10 : decode cX2_has 10 = .ok (.getfield 19, 3) := by decide +kernel
theorem dX2_has_13 : decode cX2_has 13 = .ok (.if_icmp .gt 17, 3) := by decide +kernel
theorem dX2_has_16 : decode cX2_has 16 = .ok (.iload_n 2, 1) := by decide +kernel
theorem dX2_has_17 : decode cX2_has 17 = .ok (.aload_n 0, 1) := by decide +kernel
theorem dX2_has_18 : decode cX2_has 18 = .ok (.getfield 19, 3) := by decide +kernel
theorem dX2_has_21 : decode cX2_has 21 = .ok (.iload_n 1, 1) := by decide +kernel
theorem dX2_has_22 : decode cX2_has 22 = .ok (.isub, 1) := by decide +kernel
theorem dX2_has_23 : decode cX2_has 23 = .ok (.if_icmp .gt 7, 3) := by decide +kernel
theorem dX2_has_26 : decode cX2_has 26 = .ok (.iconst 1, 1) := by decide +kernel
theorem dX2_has_27 : decode cX2_has 27 = .ok (.goto 4, 3) := by decide +kernel
theorem dX2_has_30 : decode cX2_has 30 = .ok (.iconst 0, 1) := by decide +kernel
theorem dX2_has_31 : decode cX2_has 31 = .ok (.ireturn, 1) := by decide +kernel
theorem dX2_isAllIn_0 : decode cX2_isAllIn 0 = .ok (.iconst 0, 1) := by decide +kernel
theorem dX2_isAllIn_1 : decode cX2_isAllIn 1 = .ok (.istore_n 3, 1) := by decide +kernel
theorem dX2_isAllIn_2 : decode cX2_isAllIn 2 = .ok (.iload_n 3, 1) := by decide +kernel
theorem dX2_isAllIn_3 : decode cX2_isAllIn 3 = .ok (.aload_n 0, 1) := by decide +kernel
theorem dX2_isAllIn_4 : decode cX2_isAllIn 4 = .ok (.getfield 19, 3) := by decide +kernel
theorem dX2_isAllIn_7 : decode cX2_isAllIn 7 = .ok (.if_icmp .ge 25, 3) := by decide +kernel
theorem dX2_isAllIn_10 : decode cX2_isAllIn 10 = .ok (.aload_n 0, 1) := by decide +kernel
theorem dX2_isAllIn_11 : decode cX2_isAllIn 11 = .ok (.getfield 9, 3) := by decide +kernel
theorem dX2_isAllIn_14 : decode cX2_isAllIn 14 = .ok (.iload_n 3, 1) := by decide +kernel
theorem dX2_isAllIn_15 : decode cX2_isAllIn 15 = .ok (.iaload, 1) := by decide +kernel
theorem dX2_isAllIn_16 : decode cX2_isAllIn 16 = .ok (.iload_n 1, 1) := by decide +kernel
theorem dX2_isAllIn_17 : decode cX2_isAllIn 17 = .ok (.iload_n 2, 1) := by decide +kernel
theorem dX2_isAllIn_18 : decode cX2_isAllIn 18 = .ok (.invokestatic 28, 3) := by decide +kernel
theorem dX2_isAllIn_21 : decode cX2_isAllIn 21 = .ok (.ifCond .ne 5, 3) := by decide +kernel
theorem dX2_isAllIn_24 : decode cX2_isAllIn 24 = .ok (.iconst 0, 1) := by decide +kernel
theorem dX2_isAllIn_25 : decode cX2_isAllIn 25 = .ok (.ireturn, 1) := by decide +kernel
theorem dX2_isAllIn_26 : decode cX2_isAllIn 26 = .ok (.iinc 3 1, 3) := by decide +kernel
theorem dX2_isAllIn_29 : decode cX2_isAllIn 29 = .ok (.goto (-27), 3) := by decide +kernel
theorem dX2_isAllIn_32 : decode cX2_isAllIn 32 = .ok (.iconst 1, 1) := by decide +kernel
theorem dX2_isAllIn_33 : decode cX2_isAllIn 33 = .ok (.ireturn, 1) := by decide +kernel
theorem dX2_puts_0 : decode cX2_puts 0 = .ok (.aload_n 0, 1) := by decide +kernel
theorem dX2_puts_1 : decode cX2_puts 1 = .ok (.getfield 15, 3) := by decide +kernel
theorem dX2_puts_4 : decode cX2_puts 4 = .ok (.ifCond .ne 14, 3) := by decide +kernel
theorem dX2_puts_7 : decode cX2_puts 7 = .ok (.aload_n 0, 1) := by decide +kernel
theorem dX2_puts_8 : decode cX2_puts 8 = .ok (.getfield 9, 3) := by decide +kernel
theorem dX2_puts_11 : decode cX2_puts 11 = .ok (.iload_n 1, 1) := by decide +kernel
theorem dX2_puts_12 : decode cX2_puts 12 = .ok (.iload_n 2, 1) := by decide +kernel
theorem dX2_puts_13 : decode cX2_puts 13 = .ok (.i2b, 1) := by decide +kernel
theorem dX2_puts_14 : decode cX2_puts 14 = .ok (.iastore, 1) := by decide +kernel
theorem dX2_puts_15 : decode cX2_puts 15 = .ok (.goto 29, 3) := by decide +kernel
theorem dX2_puts_18 : decode cX2_puts 18 = .ok (.aload_n 0, 1) := by decide +kernel
theorem dX2_puts_19 : decode cX2_puts 19 = .ok (.getfield 15, 3) := by decide +kernel
theorem dX2_puts_22 : decode cX2_puts 22 = .ok (.iconst 1, 1) := by decide +kernel
theorem dX2_puts_23 : decode cX2_puts 23 = .ok (.if_icmp .ne 14, 3) := by decide +kernel
theorem dX2_puts_26 : decode cX2_puts 26 = .ok (.aload_n 0, 1) := by decide +kernel
theorem dX2_puts_27 : decode cX2_puts 27 = .ok (.getfield 9, 3) := by decide +kernel
theorem dX2_puts_30 : decode cX2_puts 30 = .ok (.iload_n 1, 1) := by decide +kernel
theorem dX2_puts_31 : decode cX2_puts 31 = .ok (.iload_n 2, 1) := by decide +kernel
theorem dX2_puts_32 : decode cX2_puts 32 = .ok (.i2s, 1) := by decide +kernel
theorem dX2_puts_33 : decode cX2_puts 33 = .ok (.iastore, 1) := by decide +kernel
theorem dX2_puts_34 : decode cX2_puts 34 = .ok (.goto 10, 3) := by decide +kernel
theorem dX2_puts_37 : decode cX2_puts 37 = .ok (.aload_n 0, 1) := by decide +kernel
theorem dX2_puts_38 : decode cX2_puts 38 = .ok (.getfield 9, 3) := by decide +kernel
theorem dX2_puts_41 : decode cX2_puts 41 = .ok (.iload_n 1, 1) := by decide +kernel
theorem dX2_puts_42 : decode cX2_puts 42 = .ok (.iload_n 2, 1) := by decide +kernel
theorem dX2_puts_43 : decode cX2_puts 43 = .ok (.iastore, 1) := by decide +kernel
theorem dX2_puts_44 : decode cX2_puts 44 = .ok (.return_, 1) := by decide +kernel
theorem dX3_init_0 : decode cX3_init 0 = .ok (.aload_n 0, 1) := by decide +kernel
theorem dX3_init_1 : decode cX3_init 1 = .ok (.invokespecial 3, 3) := by decide +kernel
theorem dX3_init_4 : decode cX3_init 4 = .ok (.aload_n 0, 1) := by decide +kernel
theorem dX3_init_5 : decode cX3_init 5 = .ok (.bipush 8, 2) := by decide +kernel
theorem dX3_init_7 : decode cX3_init 7 = .ok (.newarray .int, 2) := by decide +kernel
theorem dX3_init_9 : decode cX3_init 9 = .ok (.putfield 9, 3) := by decide +kernel
theorem dX3_init_12 : decode cX3_init 12 = .ok (.aload_n 0, 1) := by decide +kernel
theorem dX3_init_13 : decode cX3_init 13 = .ok (.bipush 8, 2) := by decide +kernel
theorem dX3_init_15 : decode cX3_init 15 = .ok (.newarray .int, 2) := by decide +kernel
theorem dX3_init_17 : decode cX3_init 17 = .ok (.putfield 15, 3) := by decide +kernel
theorem dX3_init_20 : decode cX3_init 20 = .ok (.aload_n 0, 1) := by decide +kernel
theorem dX3_init_21 : decode cX3_init 21 = .ok (.bipush 8, 2) := by decide +kernel
theorem dX3_init_23 : decode cX3_init 23 = .ok (.newarray .int, 2) := by decide +kernel
theorem dX3_init_25 : decode cX3_init 25 = .ok (.putfield 18, 3) := by decide +kernel
theorem dX3_init_28 : decode cX3_init 28 = .ok (.aload_n 0, 1) := by decide +kernel
theorem dX3_init_29 : decode cX3_init 29 = .ok (.bipush 8, 2) := by decide +kernel
theorem dX3_init_31 : decode cX3_init 31 = .ok (.newarray .int, 2) := by decide +kernel
theorem dX3_init_33 : decode cX3_init 33 = .ok (.putfield 21, 3) := by decide +kernel
theorem dX3_init_36 : decode cX3_init 36 = .ok (.aload_n 0, 1) := by decide +kernel
theorem dX3_init_37 : decode cX3_init 37 = .ok (.bipush 8, 2) := by decide +kernel
theorem dX3_init_39 : decode cX3_init 39 = .ok (.newarray .int, 2) := by decide +kernel
theorem dX3_init_41 : decode cX3_init 41 = .ok (.putfield 24, 3) := by decide +kernel
theorem dX3_init_44 : decode cX3_init 44 = .ok (.aload_n 0, 1) := by decide +kernel
theorem dX3_init_45 : decode cX3_init 45 = .ok (.bipush 8, 2) := by decide +kernel
theorem dX3_init_47 : decode cX3_init 47 = .ok (.newarray .int, 2) := by decide +kernel
theorem dX3_init_49 : decode cX3_init 49 = .ok (.putfield 27, 3) := by decide +kernel
theorem dX3_init_52 : decode cX3_init 52 = .ok (.aload_n 0, 1) := by decide +kernel
theorem dX3_init_53 : decode cX3_init 53 = .ok (.bipush 8, 2) := by decide +kernel
theorem dX3_init_55 : decode cX3_init 55 = .ok (.newarray .int, 2) := by decide +kernel
theorem dX3_init_57 : decode cX3_init 57 = .ok (.putfield 30, 3) := by decide +kernel
theorem dX3_init_60 : decode cX3_init 60 = .ok (.aload_n 0, 1) := by decide +kernel
theorem dX3_init_61 : decode cX3_init 61 = .ok (.iconst 0, 1) := by decide +kernel
theorem dX3_init_62 : decode cX3_init 62 = .ok (.putfield 33, 3) := by decide +kernel
theorem dX3_init_65 : decode cX3_init 65 = .ok (.aload_n 0, 1) := by decide +kernel
theorem dX3_init_66 : decode cX3_init 66 = .ok (.iconst 0, 1) := by decide +kernel
theorem dX3_init_67 : decode cX3_init 67 = .ok (.putfield 37, 3) := by decide +kernel
theorem dX3_init_70 : decode cX3_init 70 = .ok (.aload_n 0, 1) := by decide +kernel
theorem dX3_init_71 : decode cX3_init 71 = .ok (.iconst 0, 1) := by decide +kernel
theorem dX3_init_72 : decode cX3_init 72 = .ok (.putfield 40, 3) := by decide +kernel
theorem dX3_init_75 : decode cX3_init 75 = .ok (.aload_n 0, 1) := by decide +kernel
theorem dX3_init_76 : decode cX3_init 76 = .ok (.aload_n 1, 1) := by decide +kernel
theorem dX3_init_77 : decode cX3_init 77 = .ok (.putfield 43, 3) := by decide +kernel
theorem dX3_init_80 : decode cX3_init 80 = .ok (.return_, 1) := by decide +kernel
theorem dX3_becomes_0 : decode cX3_becomes 0 = .ok (.aload_n 1, 1) := by decide +kernel
theorem dX3_becomes_1 : decode cX3_becomes 1 = .ok (.getfield 9, 3) := by decide +kernel
theorem dX3_becomes_4 : decode cX3_becomes 4 = .ok (.iconst 0, 1) := by decide +kernel
theorem dX3_becomes_5 : decode cX3_becomes 5 = .ok (.aload_n 0, 1) := by decide +kernel
theorem dX3_becomes_6 : decode cX3_becomes 6 = .ok (.getfield 9, 3) := by decide +kernel
theorem dX3_becomes_9 : decode cX3_becomes 9 = .ok (.iconst 0, 1) := by decide +kernel
theorem dX3_becomes_10 : decode cX3_becomes 10 = .ok (.aload_n 1, 1) := by decide +kernel
theorem dX3_becomes_11 : decode cX3_becomes 11 = .ok (.getfield 33, 3) := by decide +kernel
theorem dX3_becomes_14 : decode cX3_becomes 14 = .ok (.invokestatic 47, 3) := by decide +kernel
theorem dX3_becomes_17 : decode cX3_becomes 17 = .ok (.aload_n 1, 1) := by decide +kernel
theorem dX3_becomes_18 : decode cX3_becomes 18 = .ok (.getfield 15, 3) := by decide +kernel
theorem dX3_becomes_21 : decode cX3_becomes 21 = .ok (.iconst 0, 1) := by decide +kernel
theorem dX3_becomes_22 : decode cX3_becomes 22 = .ok (.aload_n 0, 1) := by decide +kernel
theorem dX3_becomes_23 : decode cX3_becomes 23 = .ok (.getfield 15, 3) := by decide +kernel
theorem dX3_becomes_26 : decode cX3_becomes 26 = .ok (.iconst 0, 1) := by decide +kernel
theorem dX3_becomes_27 : decode cX3_becomes 27 = .ok (.aload_n 1, 1) := by decide +kernel
theorem dX3_becomes_28 : decode cX3_becomes 28 = .ok (.getfield 33, 3) := by decide +kernel
theorem dX3_becomes_31 : decode cX3_becomes 31 = .ok (.invokestatic 47, 3) := by decide +kernel
theorem dX3_becomes_34 : decode cX3_becomes 34 = .ok (.aload_n 1, 1) := by decide +kernel
theorem dX3_becomes_35 : decode cX3_becomes 35 = .ok (.getfield 18, 3) := by decide +kernel
theorem dX3_becomes_38 : decode cX3_becomes 38 = .ok (.iconst 0, 1) := by decide +kernel
theorem dX3_becomes_39 : decode cX3_becomes 39 = .ok (.aload_n 0, 1) := by decide +kernel
theorem dX3_becomes_40 : decode cX3_becomes 40 = .ok (.getfield 18, 3) := by decide +kernel
theorem dX3_becomes_43 : decode cX3_becomes 43 = .ok (.iconst 0, 1) := by decide +kernel
theorem dX3_becomes_44 : decode cX3_becomes 44 = .ok (.aload_n 1, 1) := by decide +kernel
theorem dX3_becomes_45 : decode cX3_becomes 45 = .ok (.getfield 33, 3) := by decide +kernel
theorem dX3_becomes_48 : decode cX3_becomes 48 = .ok (.invokestatic 47, 3) := by decide +kernel
theorem dX3_becomes_51 : decode cX3_becomes 51 = .ok (.aload_n 1, 1) := by decide +kernel
theorem dX3_becomes_52 : decode cX3_becomes 52 = .ok (.getfield 21, 3) := by decide +kernel
theorem dX3_becomes_55 : decode cX3_becomes 55 = .ok (.iconst 0, 1) := by decide +kernel
theorem dX3_becomes_56 : decode cX3_becomes 56 = .ok (.aload_n 0, 1) := by decide +kernel
theorem dX3_becomes_57 : decode cX3_becomes 57 = .ok (.getfield 21, 3) := by decide +kernel
theorem dX3_becomes_60 : decode cX3_becomes 60 = .ok (.iconst 0, 1) := by decide +kernel
theorem dX3_becomes_61 : decode cX3_becomes 61 = .ok (.aload_n 1, 1) := by decide +kernel
theorem dX3_becomes_62 : decode cX3_becomes 62 = .ok (.getfield 33, 3) := by decide +kernel
theorem dX3_becomes_65 : decode cX3_becomes 65 = .ok (.invokestatic 47, 3) := by decide +kernel
theorem dX3_becomes_68 : decode cX3_becomes 68 = .ok (.aload_n 1, 1) := by decide +kernel
theorem dX3_becomes_69 : decode cX3_becomes 69 = .ok (.getfield 24, 3) := by decide +kernel
theorem dX3_becomes_72 : decode cX3_becomes 72 = .ok (.iconst 0, 1) := by decide +kernel
theorem dX3_becomes_73 : decode cX3_becomes 73 = .ok (.aload_n 0, 1) := by decide +kernel
theorem dX3_becomes_74 : decode cX3_becomes 74 = .ok (.getfield 24, 3) := by decide +kernel
theorem dX3_becomes_77 : decode cX3_becomes 77 = .ok (.iconst 0, 1) := by decide +kernel
theorem dX3_becomes_78 : decode cX3_becomes 78 = .ok (.aload_n 1, 1) := by decide +kernel
theorem dX3_becomes_79 : decode cX3_becomes 79 = .ok (.getfield 33, 3) := by decide +kernel
theorem dX3_becomes_82 : decode cX3_becomes 82 = .ok (.invokestatic 47, 3) := by decide +kernel
theorem dX3_becomes_85 : decode cX3_becomes 85 = .ok (.aload_n 0, 1) := by decide +kernel
theorem dX3_becomes_86 : decode cX3_becomes 86 = .ok (.aload_n 1, 1) := by decide +kernel
theorem dX3_becomes_87 : decode cX3_becomes 87 = .ok (.getfield 33, 3) := by decide +kernel
theorem dX3_becomes_90 : decode cX3_becomes 90 = .ok (.putfield 33, 3) := by decide +kernel
theorem dX3_becomes_93 : decode cX3_becomes 93 = .ok (.aload_n 0, 1) := by decide +kernel
theorem dX3_becomes_94 : decode cX3_becomes 94 = .ok (.aload_n 1, 1) := by decide +kernel
theorem dX3_becomes_95 : decode cX3_becomes 95 = .ok (.getfield 37, 3) := by decide +kernel
theorem dX3_becomes_98 : decode cX3_becomes 98 = .ok (.putfield 37, 3) := by decide +kernel
theorem dX3_becomes_101 : decode cX3_becomes 101 = .ok (.aload_n 0, 1) := by decide +kernel
theorem dX3_becomes_102 : decode cX3_becomes 102 = .ok (.aload_n 1, 1) := by decide +kernel
theorem dX3_becomes_103 : decode cX3_becomes 103 = .ok (.getfield 40, 3) := by decide +kernel
theorem dX3_becomes_106 : decode cX3_becomes 106 = .ok (.putfield 40, 3) := by decide +kernel
theorem dX3_becomes_109 : decode cX3_becomes 109 = .ok (.return_, 1) := by decide +kernel
theorem dX3_valuesOf_0 : decode cX3_valuesOf 0 = .ok (.iload_n 1, 1) := by decide +kernel
theorem dX3_valuesOf_1 : decode cX3_valuesOf 1 = .ok (.tableswitch 51 1 4 #[31, 36, 41, 46], 31) := by decide +kernel
