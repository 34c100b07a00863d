theorem dX3_valuesOf_32 : decode cX3_valuesOf 32 = .ok (.aload_n 0, 1) := by decide +kernel
theorem dX3_valuesOf_33 : decode cX3_valuesOf 33 = .ok (.getfield 9, 3) := by decide +kernel
theorem dX3_valuesOf_36 : decode cX3_valuesOf 36 = .ok (.areturn, 1) := by decide +kernel
theorem dX3_valuesOf_37 : decode cX3_valuesOf 37 = .ok (.aload_n 0, 1) := by decide +kernel
theorem dX3_valuesOf_38 : decode cX3_valuesOf 38 = .ok (.getfield 15, 3) := by decide +kernel
theorem dX3_valuesOf_41 : decode cX3_valuesOf 41 = .ok (.areturn, 1) := by decide +kernel
theorem dX3_valuesOf_42 : decode cX3_valuesOf 42 = .ok (.aload_n 0, 1) := by decide +kernel
theorem dX3_valuesOf_43 : decode cX3_valuesOf 43 = .ok (.getfield 18, 3) := by decide +kernel
theorem dX3_valuesOf_46 : decode cX3_valuesOf 46 = .ok (.areturn, 1) := by decide +kernel
theorem dX3_valuesOf_47 : decode cX3_valuesOf 47 = .ok (.aload_n 0, 1) := by decide +kernel
theorem dX3_valuesOf_48 : decode cX3_valuesOf 48 = .ok (.getfield 21, 3) := by decide +kernel
theorem dX3_valuesOf_51 : decode cX3_valuesOf 51 = .ok (.areturn, 1) := by decide +kernel
theorem dX3_valuesOf_52 : decode cX3_valuesOf 52 = .ok (.aload_n 0, 1) := by decide +kernel
theorem dX3_valuesOf_53 : decode cX3_valuesOf 53 = .ok (.getfield 24, 3) := by decide +kernel
theorem dX3_valuesOf_56 : decode cX3_valuesOf 56 = .ok (.areturn, 1) := by decide +kernel
theorem dX3_adds_0 : decode cX3_adds 0 = .ok (.iload_n 1, 1) := by decide +kernel
theorem dX3_adds_1 : decode cX3_adds 1 = .ok (.iconst 0, 1) := by decide +kernel
theorem dX3_adds_2 : decode cX3_adds 2 = .ok (.getstatic 53, 3) := by decide +kernel
theorem dX3_adds_5 : decode cX3_adds 5 = .ok (.iconst 5, 1) := by decide +kernel
theorem dX3_adds_6 : decode cX3_adds 6 = .ok (.iaload, 1) := by decide +kernel
theorem dX3_adds_7 : decode cX3_adds 7 = .ok (.invokestatic 56, 3) := by decide +kernel
theorem dX3_adds_10 : decode cX3_adds 10 = .ok (.ifCond .eq 34, 3) := by decide +kernel
theorem dX3_adds_13 : decode cX3_adds 13 = .ok (.iload_n 2, 1) := by decide +kernel
theorem dX3_adds_14 : decode cX3_adds 14 = .ok (.iconst 0, 1) := by decide +kernel
theorem dX3_adds_15 : decode cX3_adds 15 = .ok (.getstatic 53, 3) := by decide +kernel
theorem dX3_adds_18 : decode cX3_adds 18 = .ok (.iconst 1, 1) := by decide +kernel
theorem dX3_adds_19 : decode cX3_adds 19 = .ok (.iaload, 1) := by decide +kernel
theorem dX3_adds_20 : decode cX3_adds 20 = .ok (.invokestatic 56, 3) := by decide +kernel
theorem dX3_adds_23 : decode cX3_adds 23 = .ok (.ifCond .eq 21, 3) := by decide +kernel
theorem dX3_adds_26 : decode cX3_adds 26 = .ok (.iload_n 3, 1) := by decide +kernel
theorem dX3_adds_27 : decode cX3_adds 27 = .ok (.iconst 0, 1) := by decide +kernel
theorem dX3_adds_28 : decode cX3_adds 28 = .ok (.getstatic 53, 3) := by decide +kernel
theorem dX3_adds_31 : decode cX3_adds 31 = .ok (.iconst 2, 1) := by decide +kernel
theorem dX3_adds_32 : decode cX3_adds 32 = .ok (.iaload, 1) := by decide +kernel
theorem dX3_adds_33 : decode cX3_adds 33 = .ok (.invokestatic 56, 3) := by decide +kernel
theorem dX3_adds_36 : decode cX3_adds 36 = .ok (.ifCond .eq 8, 3) := by decide +kernel
theorem dX3_adds_39 : decode cX3_adds 39 = .ok (.iload 4, 2) := by decide +kernel
theorem dX3_adds_41 : decode cX3_adds 41 = .ok (.ifCond .ge 6, 3) := by decide +kernel
theorem dX3_adds_44 : decode cX3_adds 44 = .ok (.bipush (-2), 2) := by decide +kernel
theorem dX3_adds_46 : decode cX3_adds 46 = .ok (.ireturn, 1) := by decide +kernel
theorem dX3_adds_47 : decode cX3_adds 47 = .ok (.iload 4, 2) := by decide +kernel
theorem dX3_adds_49 : decode cX3_adds 49 = .ok (.bipush 100, 2) := by decide +kernel
theorem dX3_adds_51 : decode cX3_adds 51 = .ok (.idiv, 1) := by decide +kernel
theorem dX3_adds_52 : decode cX3_adds 52 = .ok (.getstatic 53, 3) := by decide +kernel
theorem dX3_adds_55 : decode cX3_adds 55 = .ok (.iconst 4, 1) := by decide +kernel
theorem dX3_adds_56 : decode cX3_adds 56 = .ok (.iaload, 1) := by decide +kernel
theorem dX3_adds_57 : decode cX3_adds 57 = .ok (.if_icmp .gt 16, 3) := by decide +kernel
theorem dX3_adds_60 : decode cX3_adds 60 = .ok (.iload 4, 2) := by decide +kernel
theorem dX3_adds_62 : decode cX3_adds 62 = .ok (.bipush 100, 2) := by decide +kernel
theorem dX3_adds_64 : decode cX3_adds 64 = .ok (.irem, 1) := by decide +kernel
theorem dX3_adds_65 : decode cX3_adds 65 = .ok (.getstatic 53, 3) := by decide +kernel
theorem dX3_adds_68 : decode cX3_adds 68 = .ok (.iconst 3, 1) := by decide +kernel
theorem dX3_adds_69 : decode cX3_adds 69 = .ok (.iaload, 1) := by decide +kernel
theorem dX3_adds_70 : decode cX3_adds 70 = .ok (.if_icmp .le 6, 3) := by decide +kernel
theorem dX3_adds_73 : decode cX3_adds 73 = .ok (.bipush (-2), 2) := by decide +kernel
theorem dX3_adds_75 : decode cX3_adds 75 = .ok (.ireturn, 1) := by decide +kernel
theorem dX3_adds_76 : decode cX3_adds 76 = .ok (.aload_n 0, 1) := by decide +kernel
theorem dX3_adds_77 : decode cX3_adds 77 = .ok (.getfield 33, 3) := by decide +kernel
theorem dX3_adds_80 : decode cX3_adds 80 = .ok (.bipush 8, 2) := by decide +kernel
theorem dX3_adds_82 : decode cX3_adds 82 = .ok (.if_icmp .lt 6, 3) := by decide +kernel
theorem dX3_adds_85 : decode cX3_adds 85 = .ok (.bipush (-4), 2) := by decide +kernel
theorem dX3_adds_87 : decode cX3_adds 87 = .ok (.ireturn, 1) := by decide +kernel
theorem dX3_adds_88 : decode cX3_adds 88 = .ok (.aload_n 0, 1) := by decide +kernel
theorem dX3_adds_89 : decode cX3_adds 89 = .ok (.getfield 24, 3) := by decide +kernel
theorem dX3_adds_92 : decode cX3_adds 92 = .ok (.aload_n 0, 1) := by decide +kernel
theorem dX3_adds_93 : decode cX3_adds 93 = .ok (.getfield 33, 3) := by decide +kernel
theorem dX3_adds_96 : decode cX3_adds 96 = .ok (.iload_n 1, 1) := by decide +kernel
theorem dX3_adds_97 : decode cX3_adds 97 = .ok (.iastore, 1) := by decide +kernel
theorem dX3_adds_98 : decode cX3_adds 98 = .ok (.aload_n 0, 1) := by decide +kernel
theorem dX3_adds_99 : decode cX3_adds 99 = .ok (.getfield 9, 3) := by decide +kernel
theorem dX3_adds_102 : decode cX3_adds 102 = .ok (.aload_n 0, 1) := by decide +kernel
theorem dX3_adds_103 : decode cX3_adds 103 = .ok (.getfield 33, 3) := by decide +kernel
theorem dX3_adds_106 : decode cX3_adds 106 = .ok (.iload_n 2, 1) := by decide +kernel
theorem dX3_adds_107 : decode cX3_adds 107 = .ok (.iastore, 1) := by decide +kernel
theorem dX3_adds_108 : decode cX3_adds 108 = .ok (.aload_n 0, 1) := by decide +kernel
theorem dX3_adds_109 : decode cX3_adds 109 = .ok (.getfield 15, 3) := by decide +kernel
theorem dX3_adds_112 : decode cX3_adds 112 = .ok (.aload_n 0, 1) := by decide +kernel
theorem dX3_adds_113 : decode cX3_adds 113 = .ok (.getfield 33, 3) := by decide +kernel
theorem dX3_adds_116 : decode cX3_adds 116 = .ok (.iload_n 3, 1) := by decide +kernel
theorem dX3_adds_117 : decode cX3_adds 117 = .ok (.iastore, 1) := by decide +kernel
theorem dX3_adds_118 : decode cX3_adds 118 = .ok (.aload_n 0, 1) := by decide +kernel
theorem dX3_adds_119 : decode cX3_adds 119 = .ok (.getfield 21, 3) := by decide +kernel
theorem dX3_adds_122 : decode cX3_adds 122 = .ok (.aload_n 0, 1) := by decide +kernel
theorem dX3_adds_123 : decode cX3_adds 123 = .ok (.getfield 33, 3) := by decide +kernel
theorem dX3_adds_126 : decode cX3_adds 126 = .ok (.iload 4, 2) := by decide +kernel
theorem dX3_adds_128 : decode cX3_adds 128 = .ok (.bipush 100, 2) := by decide +kernel
theorem dX3_adds_130 : decode cX3_adds 130 = .ok (.idiv, 1) := by decide +kernel
theorem dX3_adds_131 : decode cX3_adds 131 = .ok (.iastore, 1) := by decide +kernel
theorem dX3_adds_132 : decode cX3_adds 132 = .ok (.aload_n 0, 1) := by decide +kernel
theorem dX3_adds_133 : decode cX3_adds 133 = .ok (.getfield 18, 3) := by decide +kernel
theorem dX3_adds_136 : decode cX3_adds 136 = .ok (.aload_n 0, 1) := by decide +kernel
theorem dX3_adds_137 : decode cX3_adds 137 = .ok (.getfield 33, 3) := by decide +kernel
theorem dX3_adds_140 : decode cX3_adds 140 = .ok (.iload 4, 2) := by decide +kernel
theorem dX3_adds_142 : decode cX3_adds 142 = .ok (.bipush 100, 2) := by decide +kernel
theorem dX3_adds_144 : decode cX3_adds 144 = .ok (.irem, 1) := by decide +kernel
theorem dX3_adds_145 : decode cX3_adds 145 = .ok (.iastore, 1) := by decide +kernel
theorem dX3_adds_146 : decode cX3_adds 146 = .ok (.aload_n 0, 1) := by decide +kernel
theorem dX3_adds_147 : decode cX3_adds 147 = .ok (.dup, 1) := by decide +kernel
theorem dX3_adds_148 : decode cX3_adds 148 = .ok (.getfield 33, 3) := by decide +kernel
theorem dX3_adds_151 : decode cX3_adds 151 = .ok (.iconst 1, 1) := by decide +kernel
theorem dX3_adds_152 : decode cX3_adds 152 = .ok (.iadd, 1) := by decide +kernel
theorem dX3_adds_153 : decode cX3_adds 153 = .ok (.putfield 33, 3) := by decide +kernel
theorem dX3_adds_156 : decode cX3_adds 156 = .ok (.aload_n 0, 1) := by decide +kernel
theorem dX3_adds_157 : decode cX3_adds 157 = .ok (.getfield 33, 3) := by decide +kernel
theorem dX3_adds_160 : decode cX3_adds 160 = .ok (.iconst 1, 1) := by decide +kernel
theorem dX3_adds_161 : decode cX3_adds 161 = .ok (.isub, 1) := by decide +kernel
theorem dX3_adds_162 : decode cX3_adds 162 = .ok (.ireturn, 1) := by decide +kernel
theorem dX3_passes_0 : decode cX3_passes 0 = .ok (.iconst 0, 1) := by decide +kernel
theorem dX3_passes_1 : decode cX3_passes 1 = .ok (.istore_n 1, 1) := by decide +kernel
theorem dX3_passes_2 : decode cX3_passes 2 = .ok (.iload_n 1, 1) := by decide +kernel
theorem dX3_passes_3 : decode cX3_passes 3 = .ok (.aload_n 0, 1) := by decide +kernel
theorem dX3_passes_4 : decode cX3_passes 4 = .ok (.getfield 33, 3) := by decide +kernel
theorem dX3_passes_7 : decode cX3_passes 7 = .ok (.if_icmp .ge 44, 3) := by decide +kernel
theorem dX3_passes_10 : decode cX3_passes 10 = .ok (.aload_n 0, 1) := by decide +kernel
theorem dX3_passes_11 : decode cX3_passes 11 = .ok (.getfield 27, 3) := by decide +kernel
theorem dX3_passes_14 : decode cX3_passes 14 = .ok (.iload_n 1, 1) := by decide +kernel
theorem dX3_passes_15 : decode cX3_passes 15 = .ok (.aload_n 0, 1) := by decide +kernel
theorem dX3_passes_16 : decode cX3_passes 16 = .ok (.getfield 15, 3) := by decide +kernel
theorem dX3_passes_19 : decode cX3_passes 19 = .ok (.iload_n 1, 1) := by decide +kernel
theorem dX3_passes_20 : decode cX3_passes 20 = .ok (.iaload, 1) := by decide +kernel
theorem dX3_passes_21 : decode cX3_passes 21 = .ok (.ifCond .ne 7, 3) := by decide +kernel
theorem dX3_passes_24 : decode cX3_passes 24 = .ok (.iconst 0, 1) := by decide +kernel
theorem dX3_passes_25 : decode cX3_passes 25 = .ok (.goto 8, 3) := by decide +kernel
theorem dX3_passes_28 : decode cX3_passes 28 = .ok (.aload_n 0, 1) := by decide +kernel
theorem dX3_passes_29 : decode cX3_passes 29 = .ok (.iload_n 1, 1) := by decide +kernel
theorem dX3_passes_30 : decode cX3_passes 30 = .ok (.invokevirtual 60, 3) := by decide +kernel
theorem dX3_passes_33 : decode cX3_passes 33 = .ok (.iastore, 1) := by decide +kernel
theorem dX3_passes_34 : decode cX3_passes 34 = .ok (.aload_n 0, 1) := by decide +kernel
theorem dX3_passes_35 : decode cX3_passes 35 = .ok (.getfield 30, 3) := by decide +kernel
theorem dX3_passes_38 : decode cX3_passes 38 = .ok (.iload_n 1, 1) := by decide +kernel
theorem dX3_passes_39 : decode cX3_passes 39 = .ok (.aload_n 0, 1) := by decide +kernel
theorem dX3_passes_40 : decode cX3_passes 40 = .ok (.iload_n 1, 1) := by decide +kernel
theorem dX3_passes_41 : decode cX3_passes 41 = .ok (.invokevirtual 64, 3) := by decide +kernel
theorem dX3_passes_44 : decode cX3_passes 44 = .ok (.iastore, 1) := by decide +kernel
theorem dX3_passes_45 : decode cX3_passes 45 = .ok (.iinc 1 1, 3) := by decide +kernel
theorem dX3_passes_48 : decode cX3_passes 48 = .ok (.goto (-46), 3) := by decide +kernel
theorem dX3_passes_51 : decode cX3_passes 51 = .ok (.iconst 0, 1) := by decide +kernel
theorem dX3_passes_52 : decode cX3_passes 52 = .ok (.istore_n 1, 1) := by decide +kernel
theorem dX3_passes_53 : decode cX3_passes 53 = .ok (.iload_n 1, 1) := by decide +kernel
theorem dX3_passes_54 : decode cX3_passes 54 = .ok (.aload_n 0, 1) := by decide +kernel
theorem dX3_passes_55 : decode cX3_passes 55 = .ok (.getfield 33, 3) := by decide +kernel
theorem dX3_passes_58 : decode cX3_passes 58 = .ok (.if_icmp .ge 56, 3) := by decide +kernel
theorem dX3_passes_61 : decode cX3_passes 61 = .ok (.aload_n 0, 1) := by decide +kernel
theorem dX3_passes_62 : decode cX3_passes 62 = .ok (.getfield 15, 3) := by decide +kernel
theorem dX3_passes_65 : decode cX3_passes 65 = .ok (.iload_n 1, 1) := by decide +kernel
theorem dX3_passes_66 : decode cX3_passes 66 = .ok (.iconst 0, 1) := by decide +kernel
theorem dX3_passes_67 : decode cX3_passes 67 = .ok (.aload_n 0, 1) := by decide +kernel
theorem dX3_passes_68 : decode cX3_passes 68 = .ok (.getfield 15, 3) := by decide +kernel
theorem dX3_passes_71 : decode cX3_passes 71 = .ok (.iload_n 1, 1) := by decide +kernel
theorem dX3_passes_72 : decode cX3_passes 72 = .ok (.iaload, 1) := by decide +kernel
theorem dX3_passes_73 : decode cX3_passes 73 = .ok (.aload_n 0, 1) := by decide +kernel
theorem dX3_passes_74 : decode cX3_passes 74 = .ok (.getfield 27, 3) := by decide +kernel
theorem dX3_passes_77 : decode cX3_passes 77 = .ok (.iload_n 1, 1) := by decide +kernel
theorem dX3_passes_78 : decode cX3_passes 78 = .ok (.iaload, 1) := by decide +kernel
theorem dX3_passes_79 : decode cX3_passes 79 = .ok (.isub, 1) := by decide +kernel
theorem dX3_passes_80 : decode cX3_passes 80 = .ok (.invokestatic 67, 3) := by decide +kernel
theorem dX3_passes_83 : decode cX3_passes 83 = .ok (.iastore, 1) := by decide +kernel
theorem dX3_passes_84 : decode cX3_passes 84 = .ok (.aload_n 0, 1) := by decide +kernel
theorem dX3_passes_85 : decode cX3_passes 85 = .ok (.getfield 18, 3) := by decide +kernel
theorem dX3_passes_88 : decode cX3_passes 88 = .ok (.iload_n 1, 1) := by decide +kernel
theorem dX3_passes_89 : decode cX3_passes 89 = .ok (.aload_n 0, 1) := by decide +kernel
theorem dX3_passes_90 : decode cX3_passes 90 = .ok (.getfield 18, 3) := by decide +kernel
theorem dX3_passes_93 : decode cX3_passes 93 = .ok (.iload_n 1, 1) := by decide +kernel
theorem dX3_passes_94 : decode cX3_passes 94 = .ok (.iaload, 1) := by decide +kernel
theorem dX3_passes_95 : decode cX3_passes 95 = .ok (.aload_n 0, 1) := by decide +kernel
theorem dX3_passes_96 : decode cX3_passes 96 = .ok (.getfield 30, 3) := by decide +kernel
theorem dX3_passes_99 : decode cX3_passes 99 = .ok (.iload_n 1, 1) := by decide +kernel
theorem dX3_passes_100 : decode cX3_passes 100 = .ok (.iaload, 1) := by decide +kernel
theorem dX3_passes_101 : decode cX3_passes 101 = .ok (.iadd, 1) := by decide +kernel
theorem dX3_passes_102 : decode cX3_passes 102 = .ok (.bipush 12, 2) := by decide +kernel
theorem dX3_passes_104 : decode cX3_passes 104 = .ok (.invokestatic 73, 3) := by decide +kernel
theorem dX3_passes_107 : decode cX3_passes 107 = .ok (.iastore, 1) := by decide +kernel
theorem dX3_passes_108 : decode cX3_passes 108 = .ok (.iinc 1 1, 3) := by decide +kernel
theorem dX3_passes_111 : decode cX3_passes 111 = .ok (.goto (-58), 3) := by decide +kernel
theorem dX3_passes_114 : decode cX3_passes 114 = .ok (.aload_n 0, 1) := by decide +kernel
theorem dX3_passes_115 : decode cX3_passes 115 = .ok (.dup, 1) := by decide +kernel
theorem dX3_passes_116 : decode cX3_passes 116 = .ok (.getfield 37, 3) := by decide +kernel
theorem dX3_passes_119 : decode cX3_passes 119 = .ok (.iconst 1, 1) := by decide +kernel
theorem dX3_passes_120 : decode cX3_passes 120 = .ok (.iadd, 1) := by decide +kernel
theorem dX3_passes_121 : decode cX3_passes 121 = .ok (.putfield 37, 3) := by decide +kernel
theorem dX3_passes_124 : decode cX3_passes 124 = .ok (.return_, 1) := by decide +kernel
theorem dX3_wornOff_0 : decode cX3_wornOff 0 = .ok (.aload_n 0, 1) := by decide +kernel
theorem dX3_wornOff_1 : decode cX3_wornOff 1 = .ok (.iload_n 1, 1) := by decide +kernel
theorem dX3_wornOff_2 : decode cX3_wornOff 2 = .ok (.invokevirtual 76, 3) := by decide +kernel
theorem dX3_wornOff_5 : decode cX3_wornOff 5 = .ok (.aload_n 0, 1) := by decide +kernel
theorem dX3_wornOff_6 : decode cX3_wornOff 6 = .ok (.getfield 43, 3) := by decide +kernel
theorem dX3_wornOff_9 : decode cX3_wornOff 9 = .ok (.aload_n 0, 1) := by decide +kernel
theorem dX3_wornOff_10 : decode cX3_wornOff 10 = .ok (.getfield 40, 3) := by decide +kernel
theorem dX3_wornOff_13 : decode cX3_wornOff 13 = .ok (.iconst 0, 1) := by decide +kernel
theorem dX3_wornOff_14 : decode cX3_wornOff 14 = .ok (.invokevirtual 80, 3) := by decide +kernel
theorem dX3_wornOff_17 : decode cX3_wornOff 17 = .ok (.iconst 0, 1) := by decide +kernel
theorem dX3_wornOff_18 : decode cX3_wornOff 18 = .ok (.bipush 99, 2) := by decide +kernel
theorem dX3_wornOff_20 : decode cX3_wornOff 20 = .ok (.invokestatic 85, 3) := by decide +kernel
theorem dX3_wornOff_23 : decode cX3_wornOff 23 = .ok (.istore_n 2, 1) := by decide +kernel
theorem dX3_wornOff_24 : decode cX3_wornOff 24 = .ok (.aload_n 0, 1) := by decide +kernel
theorem dX3_wornOff_25 : decode cX3_wornOff 25 = .ok (.iload_n 1, 1) := by decide +kernel
theorem dX3_wornOff_26 : decode cX3_wornOff 26 = .ok (.iload_n 2, 1) := by decide +kernel
theorem dX3_wornOff_27 : decode cX3_wornOff 27 = .ok (.invokevirtual 89, 3) := by decide +kernel
theorem dX3_wornOff_30 : decode cX3_wornOff 30 = .ok (.iconst 0, 1) := by decide +kernel
theorem dX3_wornOff_31 : decode cX3_wornOff 31 = .ok (.bipush 99, 2) := by decide +kernel
theorem dX3_wornOff_33 : decode cX3_wornOff 33 = .ok (.invokestatic 85, 3) := by decide +kernel
theorem dX3_wornOff_36 : decode cX3_wornOff 36 = .ok (.ireturn, 1) := by decide +kernel
theorem dX3_wornByKind_0 : decode cX3_wornByKind 0 = .ok (.aload_n 0, 1) := by decide +kernel
theorem dX3_wornByKind_1 : decode cX3_wornByKind 1 = .ok (.getfield 24, 3) := by decide +kernel
theorem dX3_wornByKind_4 : decode cX3_wornByKind 4 = .ok (.iload_n 1, 1) := by decide +kernel
theorem dX3_wornByKind_5 : decode cX3_wornByKind 5 = .ok (.iaload, 1) := by decide +kernel
theorem dX3_wornByKind_6 : decode cX3_wornByKind 6 = .ok (.tableswitch 111 1 5 #[34, 42, 46, 77, 94], 34) := by decide +kernel
theorem dX3_wornByKind_40 : decode cX3_wornByKind 40 = .ok (.iload_n 2, 1) := by decide +kernel
theorem dX3_wornByKind_41 : decode cX3_wornByKind 41 = .ok (.aload_n 0, 1) := by decide +kernel
theorem dX3_wornByKind_42 : decode cX3_wornByKind 42 = .ok (.iload_n 1, 1) := by decide +kernel
theorem dX3_wornByKind_43 : decode cX3_wornByKind 43 = .ok (.invokevirtual 92, 3) := by decide +kernel
theorem dX3_wornByKind_46 : decode cX3_wornByKind 46 = .ok (.iadd, 1) := by decide +kernel
theorem dX3_wornByKind_47 : decode cX3_wornByKind 47 = .ok (.ireturn, 1) := by decide +kernel
theorem dX3_wornByKind_48 : decode cX3_wornByKind 48 = .ok (.iload_n 2, 1) := by decide +kernel
theorem dX3_wornByKind_49 : decode cX3_wornByKind 49 = .ok (.iconst 2, 1) := by decide +kernel
theorem dX3_wornByKind_50 : decode cX3_wornByKind 50 = .ok (.idiv, 1) := by decide +kernel
theorem dX3_wornByKind_51 : decode cX3_wornByKind 51 = .ok (.ireturn, 1) := by decide +kernel
theorem dX3_wornByKind_52 : decode cX3_wornByKind 52 = .ok (.aload_n 0, 1) := by decide +kernel
theorem dX3_wornByKind_53 : decode cX3_wornByKind 53 = .ok (.getfield 15, 3) := by decide +kernel
theorem dX3_wornByKind_56 : decode cX3_wornByKind 56 = .ok (.iload_n 1, 1) := by decide +kernel
theorem dX3_wornByKind_57 : decode cX3_wornByKind 57 = .ok (.iaload, 1) := by decide +kernel
theorem dX3_wornByKind_58 : decode cX3_wornByKind 58 = .ok (.bipush 20, 2) := by decide +kernel
theorem dX3_wornByKind_60 : decode cX3_wornByKind 60 = .ok (.if_icmp .ge 15, 3) := by decide +kernel
theorem dX3_wornByKind_63 : decode cX3_wornByKind 63 = .ok (.iconst 2, 1) := by decide +kernel
theorem dX3_wornByKind_64 : decode cX3_wornByKind 64 = .ok (.iload_n 2, 1) := by decide +kernel
theorem dX3_wornByKind_65 : decode cX3_wornByKind 65 = .ok (.aload_n 0, 1) := by decide +kernel
theorem dX3_wornByKind_66 : decode cX3_wornByKind 66 = .ok (.iload_n 1, 1) := by decide +kernel
theorem dX3_wornByKind_67 : decode cX3_wornByKind 67 = .ok (.invokevirtual 92, 3) := by decide +kernel
theorem dX3_wornByKind_70 : decode cX3_wornByKind 70 = .ok (.iadd, 1) := by decide +kernel
theorem dX3_wornByKind_71 : decode cX3_wornByKind 71 = .ok (.imul, 1) := by decide +kernel
theorem dX3_wornByKind_72 : decode cX3_wornByKind 72 = .ok (.goto 10, 3) := by decide +kernel
theorem dX3_wornByKind_75 : decode cX3_wornByKind 75 = .ok (.iload_n 2, 1) := by decide +kernel
theorem dX3_wornByKind_76 : decode cX3_wornByKind 76 = .ok (.aload_n 0, 1) := by decide +kernel
theorem dX3_wornByKind_77 : decode cX3_wornByKind 77 = .ok (.iload_n 1, 1) := by decide +kernel
theorem dX3_wornByKind_78 : decode cX3_wornByKind 78 = .ok (.invokevirtual 92, 3) := by decide +kernel
theorem dX3_wornByKind_81 : decode cX3_wornByKind 81 = .ok (.iadd, 1) := by decide +kernel
theorem dX3_wornByKind_82 : decode cX3_wornByKind 82 = .ok (.ireturn, 1) := by decide +kernel
theorem dX3_wornByKind_83 : decode cX3_wornByKind 83 = .ok (.aload_n 0, 1) := by decide +kernel
theorem dX3_wornByKind_84 : decode cX3_wornByKind 84 = .ok (.getfield 37, 3) := by decide +kernel
theorem dX3_wornByKind_87 : decode cX3_wornByKind 87 = .ok (.iconst 2, 1) := by decide +kernel
theorem dX3_wornByKind_88 : decode cX3_wornByKind 88 = .ok (.irem, 1) := by decide +kernel
theorem dX3_wornByKind_89 : decode cX3_wornByKind 89 = .ok (.ifCond .ne 7, 3) := by decide +kernel
theorem dX3_wornByKind_92 : decode cX3_wornByKind 92 = .ok (.iconst 0, 1) := by decide +kernel
theorem dX3_wornByKind_93 : decode cX3_wornByKind 93 = .ok (.goto 6, 3) := by decide +kernel
theorem dX3_wornByKind_96 : decode cX3_wornByKind 96 = .ok (.iload_n 2, 1) := by decide +kernel
theorem dX3_wornByKind_97 : decode cX3_wornByKind 97 = .ok (.iconst 2, 1) := by decide +kernel
theorem dX3_wornByKind_98 : decode cX3_wornByKind 98 = .ok (.idiv, 1) := by decide +kernel
theorem dX3_wornByKind_99 : decode cX3_wornByKind 99 = .ok (.ireturn, 1) := by decide +kernel
theorem dX3_wornByKind_100 : decode cX3_wornByKind 100 = .ok (.aload_n 0, 1) := by decide +kernel
theorem dX3_wornByKind_101 : decode cX3_wornByKind 101 = .ok (.getfield 15, 3) := by decide +kernel
theorem dX3_wornByKind_104 : decode cX3_wornByKind 104 = .ok (.iload_n 1, 1) := by decide +kernel
theorem dX3_wornByKind_105 : decode cX3_wornByKind 105 = .ok (.iaload, 1) := by decide +kernel
theorem dX3_wornByKind_106 : decode cX3_wornByKind 106 = .ok (.bipush 50, 2) := by decide +kernel
theorem dX3_wornByKind_108 : decode cX3_wornByKind 108 = .ok (.if_icmp .le 7, 3) := by decide +kernel
theorem dX3_wornByKind_111 : decode cX3_wornByKind 111 = .ok (.iconst 0, 1) := by decide +kernel
theorem dX3_wornByKind_112 : decode cX3_wornByKind 112 = .ok (.goto 4, 3) := by decide +kernel
theorem dX3_wornByKind_115 : decode cX3_wornByKind 115 = .ok (.iload_n 2, 1) := by decide +kernel
theorem dX3_wornByKind_116 : decode cX3_wornByKind 116 = .ok (.ireturn, 1) := by decide +kernel
theorem dX3_wornByKind_117 : decode cX3_wornByKind 117 = .ok (.iload_n 2, 1) := by decide +kernel
theorem dX3_wornByKind_118 : decode cX3_wornByKind 118 = .ok (.ireturn, 1) := by decide +kernel
theorem dX3_carriedOn_0 : decode cX3_carriedOn 0 = .ok (.aload_n 0, 1) := by decide +kernel
theorem dX3_carriedOn_1 : decode cX3_carriedOn 1 = .ok (.getfield 24, 3) := by decide +kernel
theorem dX3_carriedOn_4 : decode cX3_carriedOn 4 = .ok (.iload_n 1, 1) := by decide +kernel
theorem dX3_carriedOn_5 : decode cX3_carriedOn 5 = .ok (.iaload, 1) := by decide +kernel
theorem dX3_carriedOn_6 : decode cX3_carriedOn 6 = .ok (.iconst 5, 1) := by decide +kernel
theorem dX3_carriedOn_7 : decode cX3_carriedOn 7 = .ok (.if_icmp .eq 22, 3) := by decide +kernel
theorem dX3_carriedOn_10 : decode cX3_carriedOn 10 = .ok (.aload_n 0, 1) := by decide +kernel
theorem dX3_carriedOn_11 : decode cX3_carriedOn 11 = .ok (.getfield 24, 3) := by decide +kernel
theorem dX3_carriedOn_14 : decode cX3_carriedOn 14 = .ok (.iload_n 1, 1) := by decide +kernel
theorem dX3_carriedOn_15 : decode cX3_carriedOn 15 = .ok (.iaload, 1) := by decide +kernel
theorem dX3_carriedOn_16 : decode cX3_carriedOn 16 = .ok (.iconst 3, 1) := by decide +kernel
theorem dX3_carriedOn_17 : decode cX3_carriedOn 17 = .ok (.if_icmp .ne 14, 3) := by decide +kernel
theorem dX3_carriedOn_20 : decode cX3_carriedOn 20 = .ok (.aload_n 0, 1) := by decide +kernel
theorem dX3_carriedOn_21 : decode cX3_carriedOn 21 = .ok (.getfield 15, 3) := by decide +kernel
theorem dX3_carriedOn_24 : decode cX3_carriedOn 24 = .ok (.iload_n 1, 1) := by decide +kernel
theorem dX3_carriedOn_25 : decode cX3_carriedOn 25 = .ok (.iaload, 1) := by decide +kernel
theorem dX3_carriedOn_26 : decode cX3_carriedOn 26 = .ok (.ifCond .ne 5, 3) := by decide +kernel
theorem dX3_carriedOn_29 : decode cX3_carriedOn 29 = .ok (.iconst 0, 1) := by decide +kernel
theorem dX3_carriedOn_30 : decode cX3_carriedOn 30 = .ok (.ireturn, 1) := by decide +kernel
theorem dX3_carriedOn_31 : decode cX3_carriedOn 31 = .ok (.aload_n 0, 1) := by decide +kernel
theorem dX3_carriedOn_32 : decode cX3_carriedOn 32 = .ok (.iload_n 1, 1) := by decide +kernel
theorem dX3_carriedOn_33 : decode cX3_carriedOn 33 = .ok (.invokevirtual 76, 3) := by decide +kernel
theorem dX3_carriedOn_36 : decode cX3_carriedOn 36 = .ok (.aload_n 0, 1) := by decide +kernel
theorem dX3_carriedOn_37 : decode cX3_carriedOn 37 = .ok (.getfield 43, 3) := by decide +kernel
theorem dX3_carriedOn_40 : decode cX3_carriedOn 40 = .ok (.aload_n 0, 1) := by decide +kernel
theorem dX3_carriedOn_41 : decode cX3_carriedOn 41 = .ok (.getfield 40, 3) := by decide +kernel
theorem dX3_carriedOn_44 : decode cX3_carriedOn 44 = .ok (.iconst 1, 1) := by decide +kernel
theorem dX3_carriedOn_45 : decode cX3_carriedOn 45 = .ok (.invokevirtual 80, 3) := by decide +kernel
theorem dX3_carriedOn_48 : decode cX3_carriedOn 48 = .ok (.bipush (-99), 2) := by decide +kernel
theorem dX3_carriedOn_50 : decode cX3_carriedOn 50 = .ok (.bipush 99, 2) := by decide +kernel
theorem dX3_carriedOn_52 : decode cX3_carriedOn 52 = .ok (.invokestatic 85, 3) := by decide +kernel
theorem dX3_carriedOn_55 : decode cX3_carriedOn 55 = .ok (.istore_n 2, 1) := by decide +kernel
theorem dX3_carriedOn_56 : decode cX3_carriedOn 56 = .ok (.aload_n 0, 1) := by decide +kernel
theorem dX3_carriedOn_57 : decode cX3_carriedOn 57 = .ok (.getfield 24, 3) := by decide +kernel
theorem dX3_carriedOn_60 : decode cX3_carriedOn 60 = .ok (.iload_n 1, 1) := by decide +kernel
theorem dX3_carriedOn_61 : decode cX3_carriedOn 61 = .ok (.iaload, 1) := by decide +kernel
theorem dX3_carriedOn_62 : decode cX3_carriedOn 62 = .ok (.tableswitch 62 1 4 #[30, 39, 30, 42], 30) := by decide +kernel
theorem dX3_carriedOn_92 : decode cX3_carriedOn 92 = .ok (.iload_n 2, 1) := by decide +kernel
theorem dX3_carriedOn_93 : decode cX3_carriedOn 93 = .ok (.aload_n 0, 1) := by decide +kernel
theorem dX3_carriedOn_94 : decode cX3_carriedOn 94 = .ok (.getfield 9, 3) := by decide +kernel
theorem dX3_carriedOn_97 : decode cX3_carriedOn 97 = .ok (.iload_n 1, 1) := by decide +kernel
theorem dX3_carriedOn_98 : decode cX3_carriedOn 98 = .ok (.iaload, 1) := by decide +kernel
theorem dX3_carriedOn_99 : decode cX3_carriedOn 99 = .ok (.iadd, 1) := by decide +kernel
theorem dX3_carriedOn_100 : decode cX3_carriedOn 100 = .ok (.ireturn, 1) := by decide +kernel
theorem dX3_carriedOn_101 : decode cX3_carriedOn 101 = .ok (.iload_n 2, 1) := by decide +kernel
theorem dX3_carriedOn_102 : decode cX3_carriedOn 102 = .ok (.ineg, 1) := by decide +kernel
theorem dX3_carriedOn_103 : decode cX3_carriedOn 103 = .ok (.ireturn, 1) := by decide +kernel
theorem dX3_carriedOn_104 : decode cX3_carriedOn 104 = .ok (.aload_n 0, 1) := by decide +kernel
theorem dX3_carriedOn_105 : decode cX3_carriedOn 105 = .ok (.getfield 21, 3) := by decide +kernel
theorem dX3_carriedOn_108 : decode cX3_carriedOn 108 = .ok (.iload_n 1, 1) := by decide +kernel
theorem dX3_carriedOn_109 : decode cX3_carriedOn 109 = .ok (.iaload, 1) := by decide +kernel
theorem dX3_carriedOn_110 : decode cX3_carriedOn 110 = .ok (.iconst 1, 1) := by decide +kernel
theorem dX3_carriedOn_111 : decode cX3_carriedOn 111 = .ok (.if_icmp .ne 10, 3) := by decide +kernel
theorem dX3_carriedOn_114 : decode cX3_carriedOn 114 = .ok (.bipush 6, 2) := by decide +kernel
theorem dX3_carriedOn_116 : decode cX3_carriedOn 116 = .ok (.iload_n 2, 1) := by decide +kernel
theorem dX3_carriedOn_117 : decode cX3_carriedOn 117 = .ok (.isub, 1) := by decide +kernel
theorem dX3_carriedOn_118 : decode cX3_carriedOn 118 = .ok (.goto 5, 3) := by decide +kernel
theorem dX3_carriedOn_121 : decode cX3_carriedOn 121 = .ok (.iload_n 2, 1) := by decide +kernel
theorem dX3_carriedOn_122 : decode cX3_carriedOn 122 = .ok (.ineg, 1) := by decide +kernel
theorem dX3_carriedOn_123 : decode cX3_carriedOn 123 = .ok (.ireturn, 1) := by decide +kernel
theorem dX3_carriedOn_124 : decode cX3_carriedOn 124 = .ok (.iload_n 2, 1) := by decide +kernel
theorem dX3_carriedOn_125 : decode cX3_carriedOn 125 = .ok (.ireturn, 1) := by decide +kernel
theorem dX3_isClashing_0 : decode cX3_isClashing 0 = .ok (.aload_n 0, 1) := by decide +kernel
theorem dX3_isClashing_1 : decode cX3_isClashing 1 = .ok (.getfield 24, 3) := by decide +kernel
theorem dX3_isClashing_4 : decode cX3_isClashing 4 = .ok (.iload_n 1, 1) := by decide +kernel
theorem dX3_isClashing_5 : decode cX3_isClashing 5 = .ok (.iaload, 1) := by decide +kernel
theorem dX3_isClashing_6 : decode cX3_isClashing 6 = .ok (.tableswitch 139 1 5 #[34, 64, 88, 90, 123], 34) := by decide +kernel
theorem dX3_isClashing_40 : decode cX3_isClashing 40 = .ok (.aload_n 0, 1) := by decide +kernel
theorem dX3_isClashing_41 : decode cX3_isClashing 41 = .ok (.getfield 9, 3) := by decide +kernel
theorem dX3_isClashing_44 : decode cX3_isClashing 44 = .ok (.iload_n 1, 1) := by decide +kernel
theorem dX3_isClashing_45 : decode cX3_isClashing 45 = .ok (.iaload, 1) := by decide +kernel
theorem dX3_isClashing_46 : decode cX3_isClashing 46 = .ok (.aload_n 0, 1) := by decide +kernel
theorem dX3_isClashing_47 : decode cX3_isClashing 47 = .ok (.getfield 9, 3) := by decide +kernel
theorem dX3_isClashing_50 : decode cX3_isClashing 50 = .ok (.iload_n 2, 1) := by decide +kernel
theorem dX3_isClashing_51 : decode cX3_isClashing 51 = .ok (.iaload, 1) := by decide +kernel
theorem dX3_isClashing_52 : decode cX3_isClashing 52 = .ok (.if_icmp .eq 16, 3) := by decide +kernel
theorem dX3_isClashing_55 : decode cX3_isClashing 55 = .ok (.aload_n 0, 1) := by decide +kernel
theorem dX3_isClashing_56 : decode cX3_isClashing 56 = .ok (.iload_n 1, 1) := by decide +kernel
theorem dX3_isClashing_57 : decode cX3_isClashing 57 = .ok (.iload_n 2, 1) := by decide +kernel
theorem dX3_isClashing_58 : decode cX3_isClashing 58 = .ok (.invokevirtual 95, 3) := by decide +kernel
theorem dX3_isClashing_61 : decode cX3_isClashing 61 = .ok (.ifCond .eq 7, 3) := by decide +kernel
theorem dX3_isClashing_64 : decode cX3_isClashing 64 = .ok (.iconst 1, 1) := by decide +kernel
theorem dX3_isClashing_65 : decode cX3_isClashing 65 = .ok (.goto 4, 3) := by decide +kernel
theorem dX3_isClashing_68 : decode cX3_isClashing 68 = .ok (.iconst 0, 1) := by decide +kernel
theorem dX3_isClashing_69 : decode cX3_isClashing 69 = .ok (.ireturn, 1) := by decide +kernel
theorem dX3_isClashing_70 : decode cX3_isClashing 70 = .ok (.aload_n 0, 1) := by decide +kernel
theorem dX3_isClashing_71 : decode cX3_isClashing 71 = .ok (.getfield 15, 3) := by decide +kernel
theorem dX3_isClashing_74 : decode cX3_isClashing 74 = .ok (.iload_n 2, 1) := by decide +kernel
theorem dX3_isClashing_75 : decode cX3_isClashing 75 = .ok (.iaload, 1) := by decide +kernel
theorem dX3_isClashing_76 : decode cX3_isClashing 76 = .ok (.ifCond .eq 12, 3) := by decide +kernel
theorem dX3_isClashing_79 : decode cX3_isClashing 79 = .ok (.aload_n 0, 1) := by decide +kernel
theorem dX3_isClashing_80 : decode cX3_isClashing 80 = .ok (.iload_n 1, 1) := by decide +kernel
theorem dX3_isClashing_81 : decode cX3_isClashing 81 = .ok (.iload_n 2, 1) := by decide +kernel
theorem dX3_isClashing_82 : decode cX3_isClashing 82 = .ok (.invokevirtual 99, 3) := by decide +kernel
theorem dX3_isClashing_85 : decode cX3_isClashing 85 = .ok (.ifCond .eq 7, 3) := by decide +kernel
theorem dX3_isClashing_88 : decode cX3_isClashing 88 = .ok (.iconst 1, 1) := by decide +kernel
theorem dX3_isClashing_89 : decode cX3_isClashing 89 = .ok (.goto 4, 3) := by decide +kernel
theorem dX3_isClashing_92 : decode cX3_isClashing 92 = .ok (.iconst 0, 1) := by decide +kernel
theorem dX3_isClashing_93 : decode cX3_isClashing 93 = .ok (.ireturn, 1) := by decide +kernel
theorem dX3_isClashing_94 : decode cX3_isClashing 94 = .ok (.iconst 0, 1) := by decide +kernel
theorem dX3_isClashing_95 : decode cX3_isClashing 95 = .ok (.ireturn, 1) := by decide +kernel
theorem dX3_isClashing_96 : decode cX3_isClashing 96 = .ok (.aload_n 0, 1) := by decide +kernel
theorem dX3_isClashing_97 : decode cX3_isClashing 97 = .ok (.getfield 37, 3) := by decide +kernel
theorem dX3_isClashing_100 : decode cX3_isClashing 100 = .ok (.iconst 3, 1) := by decide +kernel
theorem dX3_isClashing_101 : decode cX3_isClashing 101 = .ok (.irem, 1) := by decide +kernel
theorem dX3_isClashing_102 : decode cX3_isClashing 102 = .ok (.ifCond .eq 25, 3) := by decide +kernel
theorem dX3_isClashing_105 : decode cX3_isClashing 105 = .ok (.aload_n 0, 1) := by decide +kernel
theorem dX3_isClashing_106 : decode cX3_isClashing 106 = .ok (.getfield 15, 3) := by decide +kernel
theorem dX3_isClashing_109 : decode cX3_isClashing 109 = .ok (.iload_n 2, 1) := by decide +kernel
theorem dX3_isClashing_110 : decode cX3_isClashing 110 = .ok (.iaload, 1) := by decide +kernel
theorem dX3_isClashing_111 : decode cX3_isClashing 111 = .ok (.ifCond .eq 12, 3) := by decide +kernel
theorem dX3_isClashing_114 : decode cX3_isClashing 114 = .ok (.aload_n 0, 1) := by decide +kernel
theorem dX3_isClashing_115 : decode cX3_isClashing 115 = .ok (.iload_n 1, 1) := by decide +kernel
theorem dX3_isClashing_116 : decode cX3_isClashing 116 = .ok (.iload_n 2, 1) := by decide +kernel
theorem dX3_isClashing_117 : decode cX3_isClashing 117 = .ok (.invokevirtual 99, 3) := by decide +kernel
theorem dX3_isClashing_120 : decode cX3_isClashing 120 = .ok (.ifCond .eq 7, 3) := by decide +kernel
theorem dX3_isClashing_123 : decode cX3_isClashing 123 = .ok (.iconst 1, 1) := by decide +kernel
theorem dX3_isClashing_124 : decode cX3_isClashing 124 = .ok (.goto 4, 3) := by decide +kernel
theorem dX3_isClashing_127 : decode cX3_isClashing 127 = .ok (.iconst 0, 1) := by decide +kernel
theorem dX3_isClashing_128 : decode cX3_isClashing 128 = .ok (.ireturn, 1) := by decide +kernel
theorem dX3_isClashing_129 : decode cX3_isClashing 129 = .ok (.aload_n 0, 1) := by decide +kernel
theorem dX3_isClashing_130 : decode cX3_isClashing 130 = .ok (.getfield 24, 3) := by decide +kernel
theorem dX3_isClashing_133 : decode cX3_isClashing 133 = .ok (.iload_n 2, 1) := by decide +kernel
theorem dX3_isClashing_134 : decode cX3_isClashing 134 = .ok (.iaload, 1) := by decide +kernel
theorem dX3_isClashing_135 : decode cX3_isClashing 135 = .ok (.iconst 5, 1) := by decide +kernel
theorem dX3_isClashing_136 : decode cX3_isClashing 136 = .ok (.if_icmp .eq 7, 3) := by decide +kernel
theorem dX3_isClashing_139 : decode cX3_isClashing 139 = .ok (.iconst 1, 1) := by decide +kernel
theorem dX3_isClashing_140 : decode cX3_isClashing 140 = .ok (.goto 4, 3) := by decide +kernel
theorem dX3_isClashing_143 : decode cX3_isClashing 143 = .ok (.iconst 0, 1) := by decide +kernel
theorem dX3_isClashing_144 : decode cX3_isClashing 144 = .ok (.ireturn, 1) := by decide +kernel
theorem dX3_isClashing_145 : decode cX3_isClashing 145 = .ok (.aload_n 0, 1) := by decide +kernel
theorem dX3_isClashing_146 : decode cX3_isClashing 146 = .ok (.iload_n 1, 1) := by decide +kernel
theorem dX3_isClashing_147 : decode cX3_isClashing 147 = .ok (.iload_n 2, 1) := by decide +kernel
theorem dX3_isClashing_148 : decode cX3_isClashing 148 = .ok (.invokevirtual 99, 3) := by decide +kernel
theorem dX3_isClashing_151 : decode cX3_isClashing 151 = .ok (.ireturn, 1) := by decide +kernel
theorem dX3_isYesAcross_0 : decode cX3_isYesAcross 0 = .ok (.aload_n 0, 1) := by decide +kernel
theorem dX3_isYesAcross_1 : decode cX3_isYesAcross 1 = .ok (.getfield 21, 3) := by decide +kernel
theorem dX3_isYesAcross_4 : decode cX3_isYesAcross 4 = .ok (.iload_n 1, 1) := by decide +kernel
theorem dX3_isYesAcross_5 : decode cX3_isYesAcross 5 = .ok (.iaload, 1) := by decide +kernel
theorem dX3_isYesAcross_6 : decode cX3_isYesAcross 6 = .ok (.aload_n 0, 1) := by decide +kernel
theorem dX3_isYesAcross_7 : decode cX3_isYesAcross 7 = .ok (.getfield 21, 3) := by decide +kernel
theorem dX3_isYesAcross_10 : decode cX3_isYesAcross 10 = .ok (.iload_n 2, 1) := by decide +kernel
theorem dX3_isYesAcross_11 : decode cX3_isYesAcross 11 = .ok (.iaload, 1) := by decide +kernel
theorem dX3_isYesAcross_12 : decode cX3_isYesAcross 12 = .ok (.if_icmp .eq 16, 3) := by decide +kernel
theorem dX3_isYesAcross_15 : decode cX3_isYesAcross 15 = .ok (.aload_n 0, 1) := by decide +kernel
theorem dX3_isYesAcross_16 : decode cX3_isYesAcross 16 = .ok (.iload_n 1, 1) := by decide +kernel
theorem dX3_isYesAcross_17 : decode cX3_isYesAcross 17 = .ok (.iload_n 2, 1) := by decide +kernel
theorem dX3_isYesAcross_18 : decode cX3_isYesAcross 18 = .ok (.invokevirtual 95, 3) := by decide +kernel
theorem dX3_isYesAcross_21 : decode cX3_isYesAcross 21 = .ok (.ifCond .eq 7, 3) := by decide +kernel
theorem dX3_isYesAcross_24 : decode cX3_isYesAcross 24 = .ok (.iconst 1, 1) := by decide +kernel
theorem dX3_isYesAcross_25 : decode cX3_isYesAcross 25 = .ok (.goto 4, 3) := by decide +kernel
theorem dX3_isYesAcross_28 : decode cX3_isYesAcross 28 = .ok (.iconst 0, 1) := by decide +kernel
theorem dX3_isYesAcross_29 : decode cX3_isYesAcross 29 = .ok (.ireturn, 1) := by decide +kernel
theorem dX3_isYes_0 : decode cX3_isYes 0 = .ok (.aload_n 0, 1) := by decide +kernel
theorem dX3_isYes_1 : decode cX3_isYes 1 = .ok (.getfield 43, 3) := by decide +kernel
theorem dX3_isYes_4 : decode cX3_isYes 4 = .ok (.aload_n 0, 1) := by decide +kernel
theorem dX3_isYes_5 : decode cX3_isYes 5 = .ok (.getfield 15, 3) := by decide +kernel
theorem dX3_isYes_8 : decode cX3_isYes 8 = .ok (.iload_n 1, 1) := by decide +kernel
theorem dX3_isYes_9 : decode cX3_isYes 9 = .ok (.iaload, 1) := by decide +kernel
theorem dX3_isYes_10 : decode cX3_isYes 10 = .ok (.aload_n 0, 1) := by decide +kernel
theorem dX3_isYes_11 : decode cX3_isYes 11 = .ok (.getfield 15, 3) := by decide +kernel
theorem dX3_isYes_14 : decode cX3_isYes 14 = .ok (.iload_n 2, 1) := by decide +kernel
theorem dX3_isYes_15 : decode cX3_isYes 15 = .ok (.iaload, 1) := by decide +kernel
theorem dX3_isYes_16 : decode cX3_isYes 16 = .ok (.aload_n 0, 1) := by decide +kernel
theorem dX3_isYes_17 : decode cX3_isYes 17 = .ok (.getfield 18, 3) := by decide +kernel
theorem dX3_isYes_20 : decode cX3_isYes 20 = .ok (.iload_n 1, 1) := by decide +kernel
theorem dX3_isYes_21 : decode cX3_isYes 21 = .ok (.iaload, 1) := by decide +kernel
theorem dX3_isYes_22 : decode cX3_isYes 22 = .ok (.aload_n 0, 1) := by decide +kernel
theorem dX3_isYes_23 : decode cX3_isYes 23 = .ok (.getfield 18, 3) := by decide +kernel
theorem dX3_isYes_26 : decode cX3_isYes 26 = .ok (.iload_n 2, 1) := by decide +kernel
theorem dX3_isYes_27 : decode cX3_isYes 27 = .ok (.iaload, 1) := by decide +kernel
theorem dX3_isYes_28 : decode cX3_isYes 28 = .ok (.invokestatic 102, 3) := by decide +kernel
theorem dX3_isYes_31 : decode cX3_isYes 31 = .ok (.aload_n 0, 1) := by decide +kernel
theorem dX3_isYes_32 : decode cX3_isYes 32 = .ok (.getfield 9, 3) := by decide +kernel
theorem dX3_isYes_35 : decode cX3_isYes 35 = .ok (.iload_n 1, 1) := by decide +kernel
theorem dX3_isYes_36 : decode cX3_isYes 36 = .ok (.iaload, 1) := by decide +kernel
theorem dX3_isYes_37 : decode cX3_isYes 37 = .ok (.aload_n 0, 1) := by decide +kernel
theorem dX3_isYes_38 : decode cX3_isYes 38 = .ok (.getfield 37, 3) := by decide +kernel
theorem dX3_isYes_41 : decode cX3_isYes 41 = .ok (.aload_n 0, 1) := by decide +kernel
theorem dX3_isYes_42 : decode cX3_isYes 42 = .ok (.getfield 18, 3) := by decide +kernel
theorem dX3_isYes_45 : decode cX3_isYes 45 = .ok (.iload_n 1, 1) := by decide +kernel
theorem dX3_isYes_46 : decode cX3_isYes 46 = .ok (.iaload, 1) := by decide +kernel
theorem dX3_isYes_47 : decode cX3_isYes 47 = .ok (.invokevirtual 105, 3) := by decide +kernel
theorem dX3_isYes_50 : decode cX3_isYes 50 = .ok (.aload_n 0, 1) := by decide +kernel
theorem dX3_isYes_51 : decode cX3_isYes 51 = .ok (.getfield 43, 3) := by decide +kernel
theorem dX3_isYes_54 : decode cX3_isYes 54 = .ok (.aload_n 0, 1) := by decide +kernel
theorem dX3_isYes_55 : decode cX3_isYes 55 = .ok (.getfield 40, 3) := by decide +kernel
theorem dX3_isYes_58 : decode cX3_isYes 58 = .ok (.iconst 2, 1) := by decide +kernel
theorem dX3_isYes_59 : decode cX3_isYes 59 = .ok (.invokevirtual 80, 3) := by decide +kernel
theorem dX3_isYes_62 : decode cX3_isYes 62 = .ok (.ifCond .eq 7, 3) := by decide +kernel
theorem dX3_isYes_65 : decode cX3_isYes 65 = .ok (.iconst 1, 1) := by decide +kernel
theorem dX3_isYes_66 : decode cX3_isYes 66 = .ok (.goto 4, 3) := by decide +kernel
theorem dX3_isYes_69 : decode cX3_isYes 69 = .ok (.iconst 0, 1) := by decide +kernel
theorem dX3_isYes_70 : decode cX3_isYes 70 = .ok (.ireturn, 1) := by decide +kernel
theorem dX3_namesAlone_0 : decode cX3_namesAlone 0 = .ok (.aload_n 0, 1) := by decide +kernel
theorem dX3_namesAlone_1 : decode cX3_namesAlone 1 = .ok (.getfield 43, 3) := by decide +kernel
theorem dX3_namesAlone_4 : decode cX3_namesAlone 4 = .ok (.aload_n 0, 1) := by decide +kernel
theorem dX3_namesAlone_5 : decode cX3_namesAlone 5 = .ok (.getfield 15, 3) := by decide +kernel
theorem dX3_namesAlone_8 : decode cX3_namesAlone 8 = .ok (.iload_n 1, 1) := by decide +kernel
theorem dX3_namesAlone_9 : decode cX3_namesAlone 9 = .ok (.iaload, 1) := by decide +kernel
theorem dX3_namesAlone_10 : decode cX3_namesAlone 10 = .ok (.iconst 0, 1) := by decide +kernel
theorem dX3_namesAlone_11 : decode cX3_namesAlone 11 = .ok (.iconst 0, 1) := by decide +kernel
theorem dX3_namesAlone_12 : decode cX3_namesAlone 12 = .ok (.aload_n 0, 1) := by decide +kernel
theorem dX3_namesAlone_13 : decode cX3_namesAlone 13 = .ok (.getfield 9, 3) := by decide +kernel
theorem dX3_namesAlone_16 : decode cX3_namesAlone 16 = .ok (.iload_n 1, 1) := by decide +kernel
theorem dX3_namesAlone_17 : decode cX3_namesAlone 17 = .ok (.iaload, 1) := by decide +kernel
theorem dX3_namesAlone_18 : decode cX3_namesAlone 18 = .ok (.aload_n 0, 1) := by decide +kernel
theorem dX3_namesAlone_19 : decode cX3_namesAlone 19 = .ok (.getfield 37, 3) := by decide +kernel
theorem dX3_namesAlone_22 : decode cX3_namesAlone 22 = .ok (.aload_n 0, 1) := by decide +kernel
theorem dX3_namesAlone_23 : decode cX3_namesAlone 23 = .ok (.getfield 18, 3) := by decide +kernel
theorem dX3_namesAlone_26 : decode cX3_namesAlone 26 = .ok (.iload_n 1, 1) := by decide +kernel
theorem dX3_namesAlone_27 : decode cX3_namesAlone 27 = .ok (.iaload, 1) := by decide +kernel
theorem dX3_namesAlone_28 : decode cX3_namesAlone 28 = .ok (.invokevirtual 105, 3) := by decide +kernel
theorem dX3_namesAlone_31 : decode cX3_namesAlone 31 = .ok (.return_, 1) := by decide +kernel
theorem dX3_othersWith_0 : decode cX3_othersWith 0 = .ok (.iconst 0, 1) := by decide +kernel
theorem dX3_othersWith_1 : decode cX3_othersWith 1 = .ok (.istore_n 2, 1) := by decide +kernel
theorem dX3_othersWith_2 : decode cX3_othersWith 2 = .ok (.iconst 0, 1) := by decide +kernel
theorem dX3_othersWith_3 : decode cX3_othersWith 3 = .ok (.istore_n 3, 1) := by decide +kernel
theorem dX3_othersWith_4 : decode cX3_othersWith 4 = .ok (.iload_n 3, 1) := by decide +kernel
theorem dX3_othersWith_5 : decode cX3_othersWith 5 = .ok (.aload_n 0, 1) := by decide +kernel
theorem dX3_othersWith_6 : decode cX3_othersWith 6 = .ok (.getfield 33, 3) := by decide +kernel
theorem dX3_othersWith_9 : decode cX3_othersWith 9 = .ok (.if_icmp .ge 32, 3) := by decide +kernel
theorem dX3_othersWith_12 : decode cX3_othersWith 12 = .ok (.iload_n 3, 1) := by decide +kernel
theorem dX3_othersWith_13 : decode cX3_othersWith 13 = .ok (.iload_n 1, 1) := by decide +kernel
theorem dX3_othersWith_14 : decode cX3_othersWith 14 = .ok (.if_icmp .eq 21, 3) := by decide +kernel
theorem dX3_othersWith_17 : decode cX3_othersWith 17 = .ok (.aload_n 0, 1) := by decide +kernel
theorem dX3_othersWith_18 : decode cX3_othersWith 18 = .ok (.getfield 18, 3) := by decide +kernel
theorem dX3_othersWith_21 : decode cX3_othersWith 21 = .ok (.iload_n 3, 1) := by decide +kernel
theorem dX3_othersWith_22 : decode cX3_othersWith 22 = .ok (.iaload, 1) := by decide +kernel
theorem dX3_othersWith_23 : decode cX3_othersWith 23 = .ok (.aload_n 0, 1) := by decide +kernel
theorem dX3_othersWith_24 : decode cX3_othersWith 24 = .ok (.getfield 18, 3) := by decide +kernel
theorem dX3_othersWith_27 : decode cX3_othersWith 27 = .ok (.iload_n 1, 1) := by decide +kernel
theorem dX3_othersWith_28 : decode cX3_othersWith 28 = .ok (.iaload, 1) := by decide +kernel
theorem dX3_othersWith_29 : decode cX3_othersWith 29 = .ok (.if_icmp .ne 6, 3) := by decide +kernel
theorem dX3_othersWith_32 : decode cX3_othersWith 32 = .ok (.iinc 2 1, 3) := by decide +kernel
theorem dX3_othersWith_35 : decode cX3_othersWith 35 = .ok (.iinc 3 1, 3) := by decide +kernel
theorem dX3_othersWith_38 : decode cX3_othersWith 38 = .ok (.goto (-34), 3) := by decide +kernel
theorem dX3_othersWith_41 : decode cX3_othersWith 41 = .ok (.iload_n 2, 1) := by decide +kernel
theorem dX3_othersWith_42 : decode cX3_othersWith 42 = .ok (.ireturn, 1) := by decide +kernel
theorem dX3_whichAt_0 : decode cX3_whichAt 0 = .ok (.iconst 0, 1) := by decide +kernel
theorem dX3_whichAt_1 : decode cX3_whichAt 1 = .ok (.istore_n 2, 1) := by decide +kernel
theorem dX3_whichAt_2 : decode cX3_whichAt 2 = .ok (.iconst 0, 1) := by decide +kernel
theorem dX3_whichAt_3 : decode cX3_whichAt 3 = .ok (.istore_n 3, 1) := by decide +kernel
theorem dX3_whichAt_4 : decode cX3_whichAt 4 = .ok (.iload_n 3, 1) := by decide +kernel
theorem dX3_whichAt_5 : decode cX3_whichAt 5 = .ok (.aload_n 0, 1) := by decide +kernel
theorem dX3_whichAt_6 : decode cX3_whichAt 6 = .ok (.getfield 33, 3) := by decide +kernel
theorem dX3_whichAt_9 : decode cX3_whichAt 9 = .ok (.if_icmp .ge 25, 3) := by decide +kernel
theorem dX3_whichAt_12 : decode cX3_whichAt 12 = .ok (.aload_n 0, 1) := by decide +kernel
theorem dX3_whichAt_13 : decode cX3_whichAt 13 = .ok (.getfield 18, 3) := by decide +kernel
theorem dX3_whichAt_16 : decode cX3_whichAt 16 = .ok (.iload_n 3, 1) := by decide +kernel
theorem dX3_whichAt_17 : decode cX3_whichAt 17 = .ok (.iaload, 1) := by decide +kernel
theorem dX3_whichAt_18 : decode cX3_whichAt 18 = .ok (.iload_n 1, 1) := by decide +kernel
theorem dX3_whichAt_19 : decode cX3_whichAt 19 = .ok (.if_icmp .ne 9, 3) := by decide +kernel
theorem dX3_whichAt_22 : decode cX3_whichAt 22 = .ok (.iload_n 2, 1) := by decide +kernel
theorem dX3_whichAt_23 : decode cX3_whichAt 23 = .ok (.iconst 1, 1) := by decide +kernel
theorem dX3_whichAt_24 : decode cX3_whichAt 24 = .ok (.iload_n 3, 1) := by decide +kernel
theorem dX3_whichAt_25 : decode cX3_whichAt 25 = .ok (.ishl, 1) := by decide +kernel
theorem dX3_whichAt_26 : decode cX3_whichAt 26 = .ok (.ior, 1) := by decide +kernel
theorem dX3_whichAt_27 : decode cX3_whichAt 27 = .ok (.istore_n 2, 1) := by decide +kernel
theorem dX3_whichAt_28 : decode cX3_whichAt 28 = .ok (.iinc 3 1, 3) := by decide +kernel
theorem dX3_whichAt_31 : decode cX3_whichAt 31 = .ok (.goto (-27), 3) := by decide +kernel
theorem dX3_whichAt_34 : decode cX3_whichAt 34 = .ok (.iload_n 2, 1) := by decide +kernel
theorem dX3_whichAt_35 : decode cX3_whichAt 35 = .ok (.ireturn, 1) := by decide +kernel
theorem dX3_whichClash_0 : decode cX3_whichClash 0 = .ok (.iconst 0, 1) := by decide +kernel
theorem dX3_whichClash_1 : decode cX3_whichClash 1 = .ok (.istore_n 2, 1) := by decide +kernel
theorem dX3_whichClash_2 : decode cX3_whichClash 2 = .ok (.iconst 0, 1) := by decide +kernel
theorem dX3_whichClash_3 : decode cX3_whichClash 3 = .ok (.istore_n 3, 1) := by decide +kernel
theorem dX3_whichClash_4 : decode cX3_whichClash 4 = .ok (.iload_n 3, 1) := by decide +kernel
theorem dX3_whichClash_5 : decode cX3_whichClash 5 = .ok (.aload_n 0, 1) := by decide +kernel
theorem dX3_whichClash_6 : decode cX3_whichClash 6 = .ok (.getfield 33, 3) := by decide +kernel
theorem dX3_whichClash_9 : decode cX3_whichClash 9 = .ok (.if_icmp .ge 29, 3) := by decide +kernel
theorem dX3_whichClash_12 : decode cX3_whichClash 12 = .ok (.iload_n 3, 1) := by decide +kernel
theorem dX3_whichClash_13 : decode cX3_whichClash 13 = .ok (.iload_n 1, 1) := by decide +kernel
theorem dX3_whichClash_14 : decode cX3_whichClash 14 = .ok (.if_icmp .eq 18, 3) := by decide +kernel
theorem dX3_whichClash_17 : decode cX3_whichClash 17 = .ok (.aload_n 0, 1) := by decide +kernel
theorem dX3_whichClash_18 : decode cX3_whichClash 18 = .ok (.iload_n 1, 1) := by decide +kernel
theorem dX3_whichClash_19 : decode cX3_whichClash 19 = .ok (.iload_n 3, 1) := by decide +kernel
theorem dX3_whichClash_20 : decode cX3_whichClash 20 = .ok (.invokevirtual 109, 3) := by decide +kernel
theorem dX3_whichClash_23 : decode cX3_whichClash 23 = .ok (.ifCond .eq 9, 3) := by decide +kernel
theorem dX3_whichClash_26 : decode cX3_whichClash 26 = .ok (.iload_n 2, 1) := by decide +kernel
theorem dX3_whichClash_27 : decode cX3_whichClash 27 = .ok (.iconst 1, 1) := by decide +kernel
theorem dX3_whichClash_28 : decode cX3_whichClash 28 = .ok (.iload_n 3, 1) := by decide +kernel
theorem dX3_whichClash_29 : decode cX3_whichClash 29 = .ok (.ishl, 1) := by decide +kernel
theorem dX3_whichClash_30 : decode cX3_whichClash 30 = .ok (.ior, 1) := by decide +kernel
theorem dX3_whichClash_31 : decode cX3_whichClash 31 = .ok (.istore_n 2, 1) := by decide +kernel
theorem dX3_whichClash_32 : decode cX3_whichClash 32 = .ok (.iinc 3 1, 3) := by decide +kernel
theorem dX3_whichClash_35 : decode cX3_whichClash 35 = .ok (.goto (-31), 3) := by decide +kernel
theorem dX3_whichClash_38 : decode cX3_whichClash 38 = .ok (.iload_n 2, 1) := by decide +kernel
theorem dX3_whichClash_39 : decode cX3_whichClash 39 = .ok (.ireturn, 1) := by decide +kernel
theorem dX3_isApartByClash_0 : decode cX3_isApartByClash 0 = .ok (.aload_n 0, 1) := by decide +kernel
theorem dX3_isApartByClash_1 : decode cX3_isApartByClash 1 = .ok (.iload_n 1, 1) := by decide +kernel
theorem dX3_isApartByClash_2 : decode cX3_isApartByClash 2 = .ok (.iload_n 2, 1) := by decide +kernel
theorem dX3_isApartByClash_3 : decode cX3_isApartByClash 3 = .ok (.invokevirtual 109, 3) := by decide +kernel
theorem dX3_isApartByClash_6 : decode cX3_isApartByClash 6 = .ok (.ifCond .ne 12, 3) := by decide +kernel
theorem dX3_isApartByClash_9 : decode cX3_isApartByClash 9 = .ok (.aload_n 0, 1) := by decide +kernel
theorem dX3_isApartByClash_10 : decode cX3_isApartByClash 10 = .ok (.iload_n 2, 1) := by decide +kernel
theorem dX3_isApartByClash_11 : decode cX3_isApartByClash 11 = .ok (.iload_n 1, 1) := by decide +kernel
theorem dX3_isApartByClash_12 : decode cX3_isApartByClash 12 = .ok (.invokevirtual 109, 3) := by decide +kernel
theorem dX3_isApartByClash_15 : decode cX3_isApartByClash 15 = .ok (.ifCond .eq 7, 3) := by decide +kernel
theorem dX3_isApartByClash_18 : decode cX3_isApartByClash 18 = .ok (.iconst 1, 1) := by decide +kernel
theorem dX3_isApartByClash_19 : decode cX3_isApartByClash 19 = .ok (.goto 4, 3) := by decide +kernel
theorem dX3_isApartByClash_22 : decode cX3_isApartByClash 22 = .ok (.iconst 0, 1) := by decide +kernel
theorem dX3_isApartByClash_23 : decode cX3_isApartByClash 23 = .ok (.ireturn, 1) := by decide +kernel
theorem dX3_howManyApartByClash_0 : decode cX3_howManyApartByClash 0 = .ok (.iconst 0, 1) := by decide +kernel
theorem dX3_howManyApartByClash_1 : decode cX3_howManyApartByClash 1 = .ok (.istore_n 1, 1) := by decide +kernel
theorem dX3_howManyApartByClash_2 : decode cX3_howManyApartByClash 2 = .ok (.iconst 0, 1) := by decide +kernel
theorem dX3_howManyApartByClash_3 : decode cX3_howManyApartByClash 3 = .ok (.istore_n 2, 1) := by decide +kernel
theorem dX3_howManyApartByClash_4 : decode cX3_howManyApartByClash 4 = .ok (.iload_n 2, 1) := by decide +kernel
theorem dX3_howManyApartByClash_5 : decode cX3_howManyApartByClash 5 = .ok (.aload_n 0, 1) := by decide +kernel
theorem dX3_howManyApartByClash_6 : decode cX3_howManyApartByClash 6 = .ok (.getfield 33, 3) := by decide +kernel
theorem dX3_howManyApartByClash_9 : decode cX3_howManyApartByClash 9 = .ok (.if_icmp .ge 39, 3) := by decide +kernel
theorem dX3_howManyApartByClash_12 : decode cX3_howManyApartByClash 12 = .ok (.iload_n 2, 1) := by decide +kernel
theorem dX3_howManyApartByClash_13 : decode cX3_howManyApartByClash 13 = .ok (.iconst 1, 1) := by decide +kernel
theorem dX3_howManyApartByClash_14 : decode cX3_howManyApartByClash 14 = .ok (.iadd, 1) := by decide +kernel
theorem dX3_howManyApartByClash_15 : decode cX3_howManyApartByClash 15 = .ok (.istore_n 3, 1) := by decide +kernel
theorem dX3_howManyApartByClash_16 : decode cX3_howManyApartByClash 16 = .ok (.iload_n 3, 1) := by decide +kernel
theorem dX3_howManyApartByClash_17 : decode cX3_howManyApartByClash 17 = .ok (.aload_n 0, 1) := by decide +kernel
theorem dX3_howManyApartByClash_18 : decode cX3_howManyApartByClash 18 = .ok (.getfield 33, 3) := by decide +kernel
theorem dX3_howManyApartByClash_21 : decode cX3_howManyApartByClash 21 = .ok (.if_icmp .ge 21, 3) := by decide +kernel
theorem dX3_howManyApartByClash_24 : decode cX3_howManyApartByClash 24 = .ok (.aload_n 0, 1) := by decide +kernel
theorem dX3_howManyApartByClash_25 : decode cX3_howManyApartByClash 25 = .ok (.iload_n 2, 1) := by decide +kernel
theorem dX3_howManyApartByClash_26 : decode cX3_howManyApartByClash 26 = .ok (.iload_n 3, 1) := by decide +kernel
theorem dX3_howManyApartByClash_27 : decode cX3_howManyApartByClash 27 = .ok (.invokevirtual 112, 3) := by decide +kernel
theorem dX3_howManyApartByClash_30 : decode cX3_howManyApartByClash 30 = .ok (.ifCond .eq 6, 3) := by decide +kernel
theorem dX3_howManyApartByClash_33 : decode cX3_howManyApartByClash 33 = .ok (.iinc 1 1, 3) := by decide +kernel
theorem dX3_howManyApartByClash_36 : decode cX3_howManyApartByClash 36 = .ok (.iinc 3 1, 3) := by decide +kernel
theorem dX3_howManyApartByClash_39 : decode cX3_howManyApartByClash 39 = .ok (.goto (-23), 3) := by decide +kernel
theorem dX3_howManyApartByClash_42 : decode cX3_howManyApartByClash 42 = .ok (.iinc 2 1, 3) := by decide +kernel
theorem dX3_howManyApartByClash_45 : decode cX3_howManyApartByClash 45 = .ok (.goto (-41), 3) := by decide +kernel
theorem dX3_howManyApartByClash_48 : decode cX3_howManyApartByClash 48 = .ok (.iload_n 1, 1) := by decide +kernel
theorem dX3_howManyApartByClash_49 : decode cX3_howManyApartByClash 49 = .ok (.ireturn, 1) := by decide +kernel
theorem dX3_wereOne_0 : decode cX3_wereOne 0 = .ok (.aload_n 0, 1) := by decide +kernel
theorem dX3_wereOne_1 : decode cX3_wereOne 1 = .ok (.getfield 21, 3) := by decide +kernel
theorem dX3_wereOne_4 : decode cX3_wereOne 4 = .ok (.iload_n 1, 1) := by decide +kernel
theorem dX3_wereOne_5 : decode cX3_wereOne 5 = .ok (.iaload, 1) := by decide +kernel
theorem dX3_wereOne_6 : decode cX3_wereOne 6 = .ok (.aload_n 0, 1) := by decide +kernel
theorem dX3_wereOne_7 : decode cX3_wereOne 7 = .ok (.getfield 21, 3) := by decide +kernel
theorem dX3_wereOne_10 : decode cX3_wereOne 10 = .ok (.iload_n 2, 1) := by decide +kernel
theorem dX3_wereOne_11 : decode cX3_wereOne 11 = .ok (.iaload, 1) := by decide +kernel
theorem dX3_wereOne_12 : decode cX3_wereOne 12 = .ok (.if_icmp .eq 41, 3) := by decide +kernel
theorem dX3_wereOne_15 : decode cX3_wereOne 15 = .ok (.aload_n 0, 1) := by decide +kernel
theorem dX3_wereOne_16 : decode cX3_wereOne 16 = .ok (.getfield 9, 3) := by decide +kernel
theorem dX3_wereOne_19 : decode cX3_wereOne 19 = .ok (.iload_n 1, 1) := by decide +kernel
theorem dX3_wereOne_20 : decode cX3_wereOne 20 = .ok (.iaload, 1) := by decide +kernel
theorem dX3_wereOne_21 : decode cX3_wereOne 21 = .ok (.aload_n 0, 1) := by decide +kernel
theorem dX3_wereOne_22 : decode cX3_wereOne 22 = .ok (.getfield 9, 3) := by decide +kernel
theorem dX3_wereOne_25 : decode cX3_wereOne 25 = .ok (.iload_n 2, 1) := by decide +kernel
theorem dX3_wereOne_26 : decode cX3_wereOne 26 = .ok (.iaload, 1) := by decide +kernel
theorem dX3_wereOne_27 : decode cX3_wereOne 27 = .ok (.if_icmp .ne 26, 3) := by decide +kernel
theorem dX3_wereOne_30 : decode cX3_wereOne 30 = .ok (.aload_n 0, 1) := by decide +kernel
theorem dX3_wereOne_31 : decode cX3_wereOne 31 = .ok (.getfield 18, 3) := by decide +kernel
theorem dX3_wereOne_34 : decode cX3_wereOne 34 = .ok (.iload_n 1, 1) := by decide +kernel
theorem dX3_wereOne_35 : decode cX3_wereOne 35 = .ok (.iaload, 1) := by decide +kernel
theorem dX3_wereOne_36 : decode cX3_wereOne 36 = .ok (.aload_n 0, 1) := by decide +kernel
theorem dX3_wereOne_37 : decode cX3_wereOne 37 = .ok (.getfield 18, 3) := by decide +kernel
theorem dX3_wereOne_40 : decode cX3_wereOne 40 = .ok (.iload_n 2, 1) := by decide +kernel
theorem dX3_wereOne_41 : decode cX3_wereOne 41 = .ok (.iaload, 1) := by decide +kernel
theorem dX3_wereOne_42 : decode cX3_wereOne 42 = .ok (.invokestatic 102, 3) := by decide +kernel
theorem dX3_wereOne_45 : decode cX3_wereOne 45 = .ok (.iload_n 3, 1) := by decide +kernel
theorem dX3_wereOne_46 : decode cX3_wereOne 46 = .ok (.if_icmp .gt 7, 3) := by decide +kernel
theorem dX3_wereOne_49 : decode cX3_wereOne 49 = .ok (.iconst 1, 1) := by decide +kernel
theorem dX3_wereOne_50 : decode cX3_wereOne 50 = .ok (.goto 4, 3) := by decide +kernel
theorem dX3_wereOne_53 : decode cX3_wereOne 53 = .ok (.iconst 0, 1) := by decide +kernel
theorem dX3_wereOne_54 : decode cX3_wereOne 54 = .ok (.ireturn, 1) := by decide +kernel
theorem dX3_hurtsAt_0 : decode cX3_hurtsAt 0 = .ok (.iconst 0, 1) := by decide +kernel
theorem dX3_hurtsAt_1 : decode cX3_hurtsAt 1 = .ok (.istore_n 2, 1) := by decide +kernel
theorem dX3_hurtsAt_2 : decode cX3_hurtsAt 2 = .ok (.iload_n 2, 1) := by decide +kernel
theorem dX3_hurtsAt_3 : decode cX3_hurtsAt 3 = .ok (.aload_n 0, 1) := by decide +kernel
theorem dX3_hurtsAt_4 : decode cX3_hurtsAt 4 = .ok (.getfield 33, 3) := by decide +kernel
theorem dX3_hurtsAt_7 : decode cX3_hurtsAt 7 = .ok (.if_icmp .ge 32, 3) := by decide +kernel
theorem dX3_hurtsAt_10 : decode cX3_hurtsAt 10 = .ok (.aload_n 0, 1) := by decide +kernel
theorem dX3_hurtsAt_11 : decode cX3_hurtsAt 11 = .ok (.getfield 18, 3) := by decide +kernel
theorem dX3_hurtsAt_14 : decode cX3_hurtsAt 14 = .ok (.iload_n 2, 1) := by decide +kernel
theorem dX3_hurtsAt_15 : decode cX3_hurtsAt 15 = .ok (.iaload, 1) := by decide +kernel
theorem dX3_hurtsAt_16 : decode cX3_hurtsAt 16 = .ok (.iload_n 1, 1) := by decide +kernel
theorem dX3_hurtsAt_17 : decode cX3_hurtsAt 17 = .ok (.if_icmp .ne 16, 3) := by decide +kernel
theorem dX3_hurtsAt_20 : decode cX3_hurtsAt 20 = .ok (.aload_n 0, 1) := by decide +kernel
theorem dX3_hurtsAt_21 : decode cX3_hurtsAt 21 = .ok (.getfield 15, 3) := by decide +kernel
theorem dX3_hurtsAt_24 : decode cX3_hurtsAt 24 = .ok (.iload_n 2, 1) := by decide +kernel
theorem dX3_hurtsAt_25 : decode cX3_hurtsAt 25 = .ok (.iaload, 1) := by decide +kernel
theorem dX3_hurtsAt_26 : decode cX3_hurtsAt 26 = .ok (.bipush 30, 2) := by decide +kernel
theorem dX3_hurtsAt_28 : decode cX3_hurtsAt 28 = .ok (.if_icmp .le 5, 3) := by decide +kernel
theorem dX3_hurtsAt_31 : decode cX3_hurtsAt 31 = .ok (.iconst 1, 1) := by decide +kernel
theorem dX3_hurtsAt_32 : decode cX3_hurtsAt 32 = .ok (.ireturn, 1) := by decide +kernel
theorem dX3_hurtsAt_33 : decode cX3_hurtsAt 33 = .ok (.iinc 2 1, 3) := by decide +kernel
theorem dX3_hurtsAt_36 : decode cX3_hurtsAt 36 = .ok (.goto (-34), 3) := by decide +kernel
theorem dX3_hurtsAt_39 : decode cX3_hurtsAt 39 = .ok (.iconst 0, 1) := by decide +kernel
theorem dX3_hurtsAt_40 : decode cX3_hurtsAt 40 = .ok (.ireturn, 1) := by decide +kernel
theorem dX3_howManyRound_0 : decode cX3_howManyRound 0 = .ok (.iconst 0, 1) := by decide +kernel
theorem dX3_howManyRound_1 : decode cX3_howManyRound 1 = .ok (.istore_n 1, 1) := by decide +kernel
theorem dX3_howManyRound_2 : decode cX3_howManyRound 2 = .ok (.iconst 0, 1) := by decide +kernel
theorem dX3_howManyRound_3 : decode cX3_howManyRound 3 = .ok (.istore_n 2, 1) := by decide +kernel
theorem dX3_howManyRound_4 : decode cX3_howManyRound 4 = .ok (.iload_n 2, 1) := by decide +kernel
theorem dX3_howManyRound_5 : decode cX3_howManyRound 5 = .ok (.aload_n 0, 1) := by decide +kernel
theorem dX3_howManyRound_6 : decode cX3_howManyRound 6 = .ok (.getfield 33, 3) := by decide +kernel
theorem dX3_howManyRound_9 : decode cX3_howManyRound 9 = .ok (.if_icmp .ge 21, 3) := by decide +kernel
theorem dX3_howManyRound_12 : decode cX3_howManyRound 12 = .ok (.aload_n 0, 1) := by decide +kernel
theorem dX3_howManyRound_13 : decode cX3_howManyRound 13 = .ok (.getfield 15, 3) := by decide +kernel
theorem dX3_howManyRound_16 : decode cX3_howManyRound 16 = .ok (.iload_n 2, 1) := by decide +kernel
theorem dX3_howManyRound_17 : decode cX3_howManyRound 17 = .ok (.iaload, 1) := by decide +kernel
theorem dX3_howManyRound_18 : decode cX3_howManyRound 18 = .ok (.ifCond .ne 6, 3) := by decide +kernel
theorem dX3_howManyRound_21 : decode cX3_howManyRound 21 = .ok (.iinc 1 1, 3) := by decide +kernel
theorem dX3_howManyRound_24 : decode cX3_howManyRound 24 = .ok (.iinc 2 1, 3) := by decide +kernel
theorem dX3_howManyRound_27 : decode cX3_howManyRound 27 = .ok (.goto (-23), 3) := by decide +kernel
theorem dX3_howManyRound_30 : decode cX3_howManyRound 30 = .ok (.iload_n 1, 1) := by decide +kernel
theorem dX3_howManyRound_31 : decode cX3_howManyRound 31 = .ok (.ireturn, 1) := by decide +kernel
theorem dX3_howManyPlaces_0 : decode cX3_howManyPlaces 0 = .ok (.iconst 0, 1) := by decide +kernel
theorem dX3_howManyPlaces_1 : decode cX3_howManyPlaces 1 = .ok (.istore_n 1, 1) := by decide +kernel
theorem dX3_howManyPlaces_2 : decode cX3_howManyPlaces 2 = .ok (.iconst 0, 1) := by decide +kernel
theorem dX3_howManyPlaces_3 : decode cX3_howManyPlaces 3 = .ok (.istore_n 2, 1) := by decide +kernel
theorem dX3_howManyPlaces_4 : decode cX3_howManyPlaces 4 = .ok (.iload_n 2, 1) := by decide +kernel
theorem dX3_howManyPlaces_5 : decode cX3_howManyPlaces 5 = .ok (.aload_n 0, 1) := by decide +kernel
theorem dX3_howManyPlaces_6 : decode cX3_howManyPlaces 6 = .ok (.getfield 33, 3) := by decide +kernel
theorem dX3_howManyPlaces_9 : decode cX3_howManyPlaces 9 = .ok (.if_icmp .ge 20, 3) := by decide +kernel
theorem dX3_howManyPlaces_12 : decode cX3_howManyPlaces 12 = .ok (.iload_n 1, 1) := by decide +kernel
theorem dX3_howManyPlaces_13 : decode cX3_howManyPlaces 13 = .ok (.iconst 1, 1) := by decide +kernel
theorem dX3_howManyPlaces_14 : decode cX3_howManyPlaces 14 = .ok (.aload_n 0, 1) := by decide +kernel
theorem dX3_howManyPlaces_15 : decode cX3_howManyPlaces 15 = .ok (.getfield 18, 3) := by decide +kernel
theorem dX3_howManyPlaces_18 : decode cX3_howManyPlaces 18 = .ok (.iload_n 2, 1) := by decide +kernel
theorem dX3_howManyPlaces_19 : decode cX3_howManyPlaces 19 = .ok (.iaload, 1) := by decide +kernel
theorem dX3_howManyPlaces_20 : decode cX3_howManyPlaces 20 = .ok (.ishl, 1) := by decide +kernel
theorem dX3_howManyPlaces_21 : decode cX3_howManyPlaces 21 = .ok (.ior, 1) := by decide +kernel
theorem dX3_howManyPlaces_22 : decode cX3_howManyPlaces 22 = .ok (.istore_n 1, 1) := by decide +kernel
theorem dX3_howManyPlaces_23 : decode cX3_howManyPlaces 23 = .ok (.iinc 2 1, 3) := by decide +kernel
theorem dX3_howManyPlaces_26 : decode cX3_howManyPlaces 26 = .ok (.goto (-22), 3) := by decide +kernel
theorem dX3_howManyPlaces_29 : decode cX3_howManyPlaces 29 = .ok (.iload_n 1, 1) := by decide +kernel
theorem dX3_howManyPlaces_30 : decode cX3_howManyPlaces 30 = .ok (.invokestatic 115, 3) := by decide +kernel
theorem dX3_howManyPlaces_33 : decode cX3_howManyPlaces 33 = .ok (.ireturn, 1) := by decide +kernel
theorem dX3_sharpTogether_0 : decode cX3_sharpTogether 0 = .ok (.iconst 0, 1) := by decide +kernel
theorem dX3_sharpTogether_1 : decode cX3_sharpTogether 1 = .ok (.istore_n 1, 1) := by decide +kernel
theorem dX3_sharpTogether_2 : decode cX3_sharpTogether 2 = .ok (.iconst 0, 1) := by decide +kernel
theorem dX3_sharpTogether_3 : decode cX3_sharpTogether 3 = .ok (.istore_n 2, 1) := by decide +kernel
theorem dX3_sharpTogether_4 : decode cX3_sharpTogether 4 = .ok (.iload_n 2, 1) := by decide +kernel
theorem dX3_sharpTogether_5 : decode cX3_sharpTogether 5 = .ok (.aload_n 0, 1) := by decide +kernel
theorem dX3_sharpTogether_6 : decode cX3_sharpTogether 6 = .ok (.getfield 33, 3) := by decide +kernel
theorem dX3_sharpTogether_9 : decode cX3_sharpTogether 9 = .ok (.if_icmp .ge 18, 3) := by decide +kernel
theorem dX3_sharpTogether_12 : decode cX3_sharpTogether 12 = .ok (.iload_n 1, 1) := by decide +kernel
theorem dX3_sharpTogether_13 : decode cX3_sharpTogether 13 = .ok (.aload_n 0, 1) := by decide +kernel
theorem dX3_sharpTogether_14 : decode cX3_sharpTogether 14 = .ok (.getfield 15, 3) := by decide +kernel
theorem dX3_sharpTogether_17 : decode cX3_sharpTogether 17 = .ok (.iload_n 2, 1) := by decide +kernel
theorem dX3_sharpTogether_18 : decode cX3_sharpTogether 18 = .ok (.iaload, 1) := by decide +kernel
theorem dX3_sharpTogether_19 : decode cX3_sharpTogether 19 = .ok (.iadd, 1) := by decide +kernel
theorem dX3_sharpTogether_20 : decode cX3_sharpTogether 20 = .ok (.istore_n 1, 1) := by decide +kernel
theorem dX3_sharpTogether_21 : decode cX3_sharpTogether 21 = .ok (.iinc 2 1, 3) := by decide +kernel
theorem dX3_sharpTogether_24 : decode cX3_sharpTogether 24 = .ok (.goto (-20), 3) := by decide +kernel
theorem dX3_sharpTogether_27 : decode cX3_sharpTogether 27 = .ok (.iload_n 1, 1) := by decide +kernel
theorem dX3_sharpTogether_28 : decode cX3_sharpTogether 28 = .ok (.ireturn, 1) := by decide +kernel
theorem dX3_farthestOut_0 : decode cX3_farthestOut 0 = .ok (.iconst (-1), 1) := by decide +kernel
theorem dX3_farthestOut_1 : decode cX3_farthestOut 1 = .ok (.istore_n 1, 1) := by decide +kernel
theorem dX3_farthestOut_2 : decode cX3_farthestOut 2 = .ok (.iconst (-1), 1) := by decide +kernel
theorem dX3_farthestOut_3 : decode cX3_farthestOut 3 = .ok (.istore_n 2, 1) := by decide +kernel
theorem dX3_farthestOut_4 : decode cX3_farthestOut 4 = .ok (.iconst 0, 1) := by decide +kernel
theorem dX3_farthestOut_5 : decode cX3_farthestOut 5 = .ok (.istore_n 3, 1) := by decide +kernel
theorem dX3_farthestOut_6 : decode cX3_farthestOut 6 = .ok (.iload_n 3, 1) := by decide +kernel
theorem dX3_farthestOut_7 : decode cX3_farthestOut 7 = .ok (.aload_n 0, 1) := by decide +kernel
theorem dX3_farthestOut_8 : decode cX3_farthestOut 8 = .ok (.getfield 33, 3) := by decide +kernel
theorem dX3_farthestOut_11 : decode cX3_farthestOut 11 = .ok (.if_icmp .ge 62, 3) := by decide +kernel
theorem dX3_farthestOut_14 : decode cX3_farthestOut 14 = .ok (.iconst 0, 1) := by decide +kernel
theorem dX3_farthestOut_15 : decode cX3_farthestOut 15 = .ok (.istore 4, 2) := by decide +kernel
theorem dX3_farthestOut_17 : decode cX3_farthestOut 17 = .ok (.iconst 0, 1) := by decide +kernel
theorem dX3_farthestOut_18 : decode cX3_farthestOut 18 = .ok (.istore 5, 2) := by decide +kernel
theorem dX3_farthestOut_20 : decode cX3_farthestOut 20 = .ok (.iload 5, 2) := by decide +kernel
theorem dX3_farthestOut_22 : decode cX3_farthestOut 22 = .ok (.aload_n 0, 1) := by decide +kernel
theorem dX3_farthestOut_23 : decode cX3_farthestOut 23 = .ok (.getfield 33, 3) := by decide +kernel
theorem dX3_farthestOut_26 : decode cX3_farthestOut 26 = .ok (.if_icmp .ge 30, 3) := by decide +kernel
theorem dX3_farthestOut_29 : decode cX3_farthestOut 29 = .ok (.iload 4, 2) := by decide +kernel
theorem dX3_farthestOut_31 : decode cX3_farthestOut 31 = .ok (.aload_n 0, 1) := by decide +kernel
theorem dX3_farthestOut_32 : decode cX3_farthestOut 32 = .ok (.getfield 18, 3) := by decide +kernel
theorem dX3_farthestOut_35 : decode cX3_farthestOut 35 = .ok (.iload_n 3, 1) := by decide +kernel
theorem dX3_farthestOut_36 : decode cX3_farthestOut 36 = .ok (.iaload, 1) := by decide +kernel
theorem dX3_farthestOut_37 : decode cX3_farthestOut 37 = .ok (.aload_n 0, 1) := by decide +kernel
theorem dX3_farthestOut_38 : decode cX3_farthestOut 38 = .ok (.getfield 18, 3) := by decide +kernel
theorem dX3_farthestOut_41 : decode cX3_farthestOut 41 = .ok (.iload 5, 2) := by decide +kernel
theorem dX3_farthestOut_43 : decode cX3_farthestOut 43 = .ok (.iaload, 1) := by decide +kernel
theorem dX3_farthestOut_44 : decode cX3_farthestOut 44 = .ok (.invokestatic 102, 3) := by decide +kernel
theorem dX3_farthestOut_47 : decode cX3_farthestOut 47 = .ok (.iadd, 1) := by decide +kernel
theorem dX3_farthestOut_48 : decode cX3_farthestOut 48 = .ok (.istore 4, 2) := by decide +kernel
theorem dX3_farthestOut_50 : decode cX3_farthestOut 50 = .ok (.iinc 5 1, 3) := by decide +kernel
theorem dX3_farthestOut_53 : decode cX3_farthestOut 53 = .ok (.goto (-33), 3) := by decide +kernel
theorem dX3_farthestOut_56 : decode cX3_farthestOut 56 = .ok (.iload 4, 2) := by decide +kernel
theorem dX3_farthestOut_58 : decode cX3_farthestOut 58 = .ok (.iload_n 2, 1) := by decide +kernel
theorem dX3_farthestOut_59 : decode cX3_farthestOut 59 = .ok (.if_icmp .le 8, 3) := by decide +kernel
theorem dX3_farthestOut_62 : decode cX3_farthestOut 62 = .ok (.iload_n 3, 1) := by decide +kernel
theorem dX3_farthestOut_63 : decode cX3_farthestOut 63 = .ok (.istore_n 1, 1) := by decide +kernel
theorem dX3_farthestOut_64 : decode cX3_farthestOut 64 = .ok (.iload 4, 2) := by decide +kernel
theorem dX3_farthestOut_66 : decode cX3_farthestOut 66 = .ok (.istore_n 2, 1) := by decide +kernel
theorem dX3_farthestOut_67 : decode cX3_farthestOut 67 = .ok (.iinc 3 1, 3) := by decide +kernel
theorem dX3_farthestOut_70 : decode cX3_farthestOut 70 = .ok (.goto (-64), 3) := by decide +kernel
theorem dX3_farthestOut_73 : decode cX3_farthestOut 73 = .ok (.iload_n 1, 1) := by decide +kernel
theorem dX3_farthestOut_74 : decode cX3_farthestOut 74 = .ok (.ireturn, 1) := by decide +kernel
theorem dX4_init_0 : decode cX4_init 0 = .ok (.aload_n 0, 1) := by decide +kernel
theorem dX4_init_1 : decode cX4_init 1 = .ok (.invokespecial 3, 3) := by decide +kernel
theorem dX4_init_4 : decode cX4_init 4 = .ok (.aload_n 0, 1) := by decide +kernel
theorem dX4_init_5 : decode cX4_init 5 = .ok (.aload_n 1, 1) := by decide +kernel
theorem dX4_init_6 : decode cX4_init 6 = .ok (.putfield 9, 3) := by decide +kernel
theorem dX4_init_9 : decode cX4_init 9 = .ok (.aload_n 0, 1) := by decide +kernel
theorem dX4_init_10 : decode cX4_init 10 = .ok (.iload_n 2, 1) := by decide +kernel
theorem dX4_init_11 : decode cX4_init 11 = .ok (.putfield 15, 3) := by decide +kernel
theorem dX4_init_14 : decode cX4_init 14 = .ok (.aload_n 0, 1) := by decide +kernel
theorem dX4_init_15 : decode cX4_init 15 = .ok (.iload_n 3, 1) := by decide +kernel
theorem dX4_init_16 : decode cX4_init 16 = .ok (.putfield 19, 3) := by decide +kernel
theorem dX4_init_19 : decode cX4_init 19 = .ok (.return_, 1) := by decide +kernel
theorem dX4_startOf_0 : decode cX4_startOf 0 = .ok (.iload_n 1, 1) := by decide +kernel
theorem dX4_startOf_1 : decode cX4_startOf 1 = .ok (.ifCond .ne 5, 3) := by decide +kernel
theorem dX4_startOf_4 : decode cX4_startOf 4 = .ok (.iconst 0, 1) := by decide +kernel
theorem dX4_startOf_5 : decode cX4_startOf 5 = .ok (.ireturn, 1) := by decide +kernel
theorem dX4_startOf_6 : decode cX4_startOf 6 = .ok (.iload_n 1, 1) := by decide +kernel
theorem dX4_startOf_7 : decode cX4_startOf 7 = .ok (.iconst 1, 1) := by decide +kernel
theorem dX4_startOf_8 : decode cX4_startOf 8 = .ok (.if_icmp .ne 10, 3) := by decide +kernel
theorem dX4_startOf_11 : decode cX4_startOf 11 = .ok (.aload_n 0, 1) := by decide +kernel
theorem dX4_startOf_12 : decode cX4_startOf 12 = .ok (.getfield 15, 3) := by decide +kernel
theorem dX4_startOf_15 : decode cX4_startOf 15 = .ok (.goto 7, 3) := by decide +kernel
theorem dX4_startOf_18 : decode cX4_startOf 18 = .ok (.aload_n 0, 1) := by decide +kernel
theorem dX4_startOf_19 : decode cX4_startOf 19 = .ok (.getfield 19, 3) := by decide +kernel
theorem dX4_startOf_22 : decode cX4_startOf 22 = .ok (.ireturn, 1) := by decide +kernel
theorem dX4_endOf_0 : decode cX4_endOf 0 = .ok (.iload_n 1, 1) := by decide +kernel
theorem dX4_endOf_1 : decode cX4_endOf 1 = .ok (.ifCond .ne 8, 3) := by decide +kernel
theorem dX4_endOf_4 : decode cX4_endOf 4 = .ok (.aload_n 0, 1) := by decide +kernel
theorem dX4_endOf_5 : decode cX4_endOf 5 = .ok (.getfield 15, 3) := by decide +kernel
theorem dX4_endOf_8 : decode cX4_endOf 8 = .ok (.ireturn, 1) := by decide +kernel
theorem dX4_endOf_9 : decode cX4_endOf 9 = .ok (.iload_n 1, 1) := by decide +kernel
theorem dX4_endOf_10 : decode cX4_endOf 10 = .ok (.iconst 1, 1) := by decide +kernel
theorem dX4_endOf_11 : decode cX4_endOf 11 = .ok (.if_icmp .ne 10, 3) := by decide +kernel
theorem dX4_endOf_14 : decode cX4_endOf 14 = .ok (.aload_n 0, 1) := by decide +kernel
theorem dX4_endOf_15 : decode cX4_endOf 15 = .ok (.getfield 19, 3) := by decide +kernel
theorem dX4_endOf_18 : decode cX4_endOf 18 = .ok (.goto 8, 3) := by decide +kernel
theorem dX4_endOf_21 : decode cX4_endOf 21 = .ok (.aload_n 0, 1) := by decide +kernel
theorem dX4_endOf_22 : decode cX4_endOf 22 = .ok (.getfield 9, 3) := by decide +kernel
theorem dX4_endOf_25 : decode cX4_endOf 25 = .ok (.arraylength, 1) := by decide +kernel
theorem dX4_endOf_26 : decode cX4_endOf 26 = .ok (.ireturn, 1) := by decide +kernel
theorem dX5_init_0 : decode cX5_init 0 = .ok (.aload_n 0, 1) := by decide +kernel
theorem dX5_init_1 : decode cX5_init 1 = .ok (.invokespecial 3, 3) := by decide +kernel
theorem dX5_init_4 : decode cX5_init 4 = .ok (.aload_n 0, 1) := by decide +kernel
theorem dX5_init_5 : decode cX5_init 5 = .ok (.bipush 6, 2) := by decide +kernel
theorem dX5_init_7 : decode cX5_init 7 = .ok (.anewarray 9, 3) := by decide +kernel
theorem dX5_init_10 : decode cX5_init 10 = .ok (.putfield 11, 3) := by decide +kernel
theorem dX5_init_13 : decode cX5_init 13 = .ok (.aload_n 0, 1) := by decide +kernel
theorem dX5_init_14 : decode cX5_init 14 = .ok (.bipush 6, 2) := by decide +kernel
theorem dX5_init_16 : decode cX5_init 16 = .ok (.newarray .int, 2) := by decide +kernel
theorem dX5_init_18 : decode cX5_init 18 = .ok (.putfield 17, 3) := by decide +kernel
theorem dX5_init_21 : decode cX5_init 21 = .ok (.aload_n 0, 1) := by decide +kernel
theorem dX5_init_22 : decode cX5_init 22 = .ok (.sipush 160, 3) := by decide +kernel
theorem dX5_init_25 : decode cX5_init 25 = .ok (.newarray .int, 2) := by decide +kernel
theorem dX5_init_27 : decode cX5_init 27 = .ok (.putfield 21, 3) := by decide +kernel
theorem dX5_init_30 : decode cX5_init 30 = .ok (.aload_n 0, 1) := by decide +kernel
theorem dX5_init_31 : decode cX5_init 31 = .ok (.iconst 1, 1) := by decide +kernel
theorem dX5_init_32 : decode cX5_init 32 = .ok (.putfield 24, 3) := by decide +kernel
theorem dX5_init_35 : decode cX5_init 35 = .ok (.aload_n 0, 1) := by decide +kernel
theorem dX5_init_36 : decode cX5_init 36 = .ok (.getfield 11, 3) := by decide +kernel
theorem dX5_init_39 : decode cX5_init 39 = .ok (.iconst 0, 1) := by decide +kernel
theorem dX5_init_40 : decode cX5_init 40 = .ok (.new 9, 3) := by decide +kernel
theorem dX5_init_43 : decode cX5_init 43 = .ok (.dup, 1) := by decide +kernel
theorem dX5_init_44 : decode cX5_init 44 = .ok (.iconst 3, 1) := by decide +kernel
theorem dX5_init_45 : decode cX5_init 45 = .ok (.newarray .int, 2) := by decide +kernel
theorem dX5_init_47 : decode cX5_init 47 = .ok (.dup, 1) := by decide +kernel
theorem dX5_init_48 : decode cX5_init 48 = .ok (.iconst 0, 1) := by decide +kernel
theorem dX5_init_49 : decode cX5_init 49 = .ok (.iconst 2, 1) := by decide +kernel
theorem dX5_init_50 : decode cX5_init 50 = .ok (.iastore, 1) := by decide +kernel
theorem dX5_init_51 : decode cX5_init 51 = .ok (.dup, 1) := by decide +kernel
theorem dX5_init_52 : decode cX5_init 52 = .ok (.iconst 1, 1) := by decide +kernel
theorem dX5_init_53 : decode cX5_init 53 = .ok (.iconst 1, 1) := by decide +kernel
theorem dX5_init_54 : decode cX5_init 54 = .ok (.iastore, 1) := by decide +kernel
theorem dX5_init_55 : decode cX5_init 55 = .ok (.dup, 1) := by decide +kernel
theorem dX5_init_56 : decode cX5_init 56 = .ok (.iconst 2, 1) := by decide +kernel
theorem dX5_init_57 : decode cX5_init 57 = .ok (.iconst 1, 1) := by decide +kernel
theorem dX5_init_58 : decode cX5_init 58 = .ok (.iastore, 1) := by decide +kernel
theorem dX5_init_59 : decode cX5_init 59 = .ok (.iconst 1, 1) := by decide +kernel
theorem dX5_init_60 : decode cX5_init 60 = .ok (.iconst 2, 1) := by decide +kernel
theorem dX5_init_61 : decode cX5_init 61 = .ok (.invokespecial 28, 3) := by decide +kernel
theorem dX5_init_64 : decode cX5_init 64 = .ok (.aastore, 1) := by decide +kernel
theorem dX5_init_65 : decode cX5_init 65 = .ok (.return_, 1) := by decide +kernel
theorem dX5_adds_0 : decode cX5_adds 0 = .ok (.aload_n 0, 1) := by decide +kernel
theorem dX5_adds_1 : decode cX5_adds 1 = .ok (.getfield 24, 3) := by decide +kernel
theorem dX5_adds_4 : decode cX5_adds 4 = .ok (.bipush 6, 2) := by decide +kernel
theorem dX5_adds_6 : decode cX5_adds 6 = .ok (.if_icmp .lt 6, 3) := by decide +kernel
theorem dX5_adds_9 : decode cX5_adds 9 = .ok (.bipush (-4), 2) := by decide +kernel
theorem dX5_adds_11 : decode cX5_adds 11 = .ok (.ireturn, 1) := by decide +kernel
theorem dX5_adds_12 : decode cX5_adds 12 = .ok (.aload_n 0, 1) := by decide +kernel
theorem dX5_adds_13 : decode cX5_adds 13 = .ok (.getfield 11, 3) := by decide +kernel
theorem dX5_adds_16 : decode cX5_adds 16 = .ok (.aload_n 0, 1) := by decide +kernel
theorem dX5_adds_17 : decode cX5_adds 17 = .ok (.getfield 24, 3) := by decide +kernel
theorem dX5_adds_20 : decode cX5_adds 20 = .ok (.aload_n 1, 1) := by decide +kernel
theorem dX5_adds_21 : decode cX5_adds 21 = .ok (.aastore, 1) := by decide +kernel
theorem dX5_adds_22 : decode cX5_adds 22 = .ok (.aload_n 0, 1) := by decide +kernel
theorem dX5_adds_23 : decode cX5_adds 23 = .ok (.dup, 1) := by decide +kernel
theorem dX5_adds_24 : decode cX5_adds 24 = .ok (.getfield 24, 3) := by decide +kernel
theorem dX5_adds_27 : decode cX5_adds 27 = .ok (.iconst 1, 1) := by decide +kernel
theorem dX5_adds_28 : decode cX5_adds 28 = .ok (.iadd, 1) := by decide +kernel
theorem dX5_adds_29 : decode cX5_adds 29 = .ok (.putfield 24, 3) := by decide +kernel
theorem dX5_adds_32 : decode cX5_adds 32 = .ok (.aload_n 0, 1) := by decide +kernel
theorem dX5_adds_33 : decode cX5_adds 33 = .ok (.getfield 24, 3) := by decide +kernel
theorem dX5_adds_36 : decode cX5_adds 36 = .ok (.iconst 1, 1) := by decide +kernel
theorem dX5_adds_37 : decode cX5_adds 37 = .ok (.isub, 1) := by decide +kernel
theorem dX5_adds_38 : decode cX5_adds 38 = .ok (.ireturn, 1) := by decide +kernel
theorem dX5_names_0 : decode cX5_names 0 = .ok (.aload_n 0, 1) := by decide +kernel
theorem dX5_names_1 : decode cX5_names 1 = .ok (.getfield 17, 3) := by decide +kernel
theorem dX5_names_4 : decode cX5_names 4 = .ok (.iconst 0, 1) := by decide +kernel
theorem dX5_names_5 : decode cX5_names 5 = .ok (.iload_n 1, 1) := by decide +kernel
theorem dX5_names_6 : decode cX5_names 6 = .ok (.iastore, 1) := by decide +kernel
theorem dX5_names_7 : decode cX5_names 7 = .ok (.aload_n 0, 1) := by decide +kernel
theorem dX5_names_8 : decode cX5_names 8 = .ok (.getfield 17, 3) := by decide +kernel
theorem dX5_names_11 : decode cX5_names 11 = .ok (.iconst 1, 1) := by decide +kernel
theorem dX5_names_12 : decode cX5_names 12 = .ok (.iload_n 2, 1) := by decide +kernel
theorem dX5_names_13 : decode cX5_names 13 = .ok (.iastore, 1) := by decide +kernel
theorem dX5_names_14 : decode cX5_names 14 = .ok (.aload_n 0, 1) := by decide +kernel
theorem dX5_names_15 : decode cX5_names 15 = .ok (.getfield 17, 3) := by decide +kernel
theorem dX5_names_18 : decode cX5_names 18 = .ok (.iconst 2, 1) := by decide +kernel
theorem dX5_names_19 : decode cX5_names 19 = .ok (.iload_n 3, 1) := by decide +kernel
theorem dX5_names_20 : decode cX5_names 20 = .ok (.iastore, 1) := by decide +kernel
theorem dX5_names_21 : decode cX5_names 21 = .ok (.aload_n 0, 1) := by decide +kernel
theorem dX5_names_22 : decode cX5_names 22 = .ok (.getfield 17, 3) := by decide +kernel
theorem dX5_names_25 : decode cX5_names 25 = .ok (.iconst 3, 1) := by decide +kernel
theorem dX5_names_26 : decode cX5_names 26 = .ok (.iload 4, 2) := by decide +kernel
theorem dX5_names_28 : decode cX5_names 28 = .ok (.iastore, 1) := by decide +kernel
theorem dX5_names_29 : decode cX5_names 29 = .ok (.aload_n 0, 1) := by decide +kernel
theorem dX5_names_30 : decode cX5_names 30 = .ok (.getfield 17, 3) := by decide +kernel
theorem dX5_names_33 : decode cX5_names 33 = .ok (.iconst 4, 1) := by decide +kernel
theorem dX5_names_34 : decode cX5_names 34 = .ok (.iload 5, 2) := by decide +kernel
theorem dX5_names_36 : decode cX5_names 36 = .ok (.iastore, 1) := by decide +kernel
theorem dX5_names_37 : decode cX5_names 37 = .ok (.aload_n 0, 1) := by decide +kernel
theorem dX5_names_38 : decode cX5_names 38 = .ok (.getfield 17, 3) := by decide +kernel
theorem dX5_names_41 : decode cX5_names 41 = .ok (.iconst 5, 1) := by decide +kernel
theorem dX5_names_42 : decode cX5_names 42 = .ok (.iload 6, 2) := by decide +kernel
theorem dX5_names_44 : decode cX5_names 44 = .ok (.iastore, 1) := by decide +kernel
theorem dX5_names_45 : decode cX5_names 45 = .ok (.return_, 1) := by decide +kernel
theorem dX5_valueOf_0 : decode cX5_valueOf 0 = .ok (.iload_n 1, 1) := by decide +kernel
theorem dX5_valueOf_1 : decode cX5_valueOf 1 = .ok (.ifCond .lt 20, 3) := by decide +kernel
theorem dX5_valueOf_4 : decode cX5_valueOf 4 = .ok (.iload_n 1, 1) := by decide +kernel
theorem dX5_valueOf_5 : decode cX5_valueOf 5 = .ok (.aload_n 0, 1) := by decide +kernel
theorem dX5_valueOf_6 : decode cX5_valueOf 6 = .ok (.getfield 24, 3) := by decide +kernel
theorem dX5_valueOf_9 : decode cX5_valueOf 9 = .ok (.if_icmp .ge 12, 3) := by decide +kernel
theorem dX5_valueOf_12 : decode cX5_valueOf 12 = .ok (.aload_n 0, 1) := by decide +kernel
theorem dX5_valueOf_13 : decode cX5_valueOf 13 = .ok (.getfield 11, 3) := by decide +kernel
theorem dX5_valueOf_16 : decode cX5_valueOf 16 = .ok (.iload_n 1, 1) := by decide +kernel
theorem dX5_valueOf_17 : decode cX5_valueOf 17 = .ok (.aaload, 1) := by decide +kernel
theorem dX5_valueOf_18 : decode cX5_valueOf 18 = .ok (.goto 4, 3) := by decide +kernel
theorem dX5_valueOf_21 : decode cX5_valueOf 21 = .ok (.aconst_null, 1) := by decide +kernel
theorem dX5_valueOf_22 : decode cX5_valueOf 22 = .ok (.astore_n 3, 1) := by decide +kernel
theorem dX5_valueOf_23 : decode cX5_valueOf 23 = .ok (.aload_n 3, 1) := by decide +kernel
theorem dX5_valueOf_24 : decode cX5_valueOf 24 = .ok (.ifnonnull 5, 3) := by decide +kernel
theorem dX5_valueOf_27 : decode cX5_valueOf 27 = .ok (.iconst 0, 1) := by decide +kernel
theorem dX5_valueOf_28 : decode cX5_valueOf 28 = .ok (.ireturn, 1) := by decide +kernel
theorem dX5_valueOf_29 : decode cX5_valueOf 29 = .ok (.aload_n 3, 1) := by decide +kernel
theorem dX5_valueOf_30 : decode cX5_valueOf 30 = .ok (.iload_n 2, 1) := by decide +kernel
theorem dX5_valueOf_31 : decode cX5_valueOf 31 = .ok (.invokevirtual 31, 3) := by decide +kernel
theorem dX5_valueOf_34 : decode cX5_valueOf 34 = .ok (.istore 4, 2) := by decide +kernel
theorem dX5_valueOf_36 : decode cX5_valueOf 36 = .ok (.iconst 0, 1) := by decide +kernel
theorem dX5_valueOf_37 : decode cX5_valueOf 37 = .ok (.istore 5, 2) := by decide +kernel
theorem dX5_valueOf_39 : decode cX5_valueOf 39 = .ok (.aload_n 3, 1) := by decide +kernel
theorem dX5_valueOf_40 : decode cX5_valueOf 40 = .ok (.iload_n 2, 1) := by decide +kernel
theorem dX5_valueOf_41 : decode cX5_valueOf 41 = .ok (.invokevirtual 35, 3) := by decide +kernel
theorem dX5_valueOf_44 : decode cX5_valueOf 44 = .ok (.istore 6, 2) := by decide +kernel
theorem dX5_valueOf_46 : decode cX5_valueOf 46 = .ok (.iload 6, 2) := by decide +kernel
theorem dX5_valueOf_48 : decode cX5_valueOf 48 = .ok (.iload 4, 2) := by decide +kernel
theorem dX5_valueOf_50 : decode cX5_valueOf 50 = .ok (.if_icmp .ge 167, 3) := by decide +kernel
theorem dX5_valueOf_53 : decode cX5_valueOf 53 = .ok (.iload 5, 2) := by decide +kernel
theorem dX5_valueOf_55 : decode cX5_valueOf 55 = .ok (.aload_n 0, 1) := by decide +kernel
theorem dX5_valueOf_56 : decode cX5_valueOf 56 = .ok (.getfield 21, 3) := by decide +kernel
theorem dX5_valueOf_59 : decode cX5_valueOf 59 = .ok (.arraylength, 1) := by decide +kernel
theorem dX5_valueOf_60 : decode cX5_valueOf 60 = .ok (.if_icmp .ge 157, 3) := by decide +kernel
theorem dX5_valueOf_63 : decode cX5_valueOf 63 = .ok (.iconst (-1), 1) := by decide +kernel
theorem dX5_valueOf_64 : decode cX5_valueOf 64 = .ok (.aload_n 3, 1) := by decide +kernel
theorem dX5_valueOf_65 : decode cX5_valueOf 65 = .ok (.getfield 38, 3) := by decide +kernel
theorem dX5_valueOf_68 : decode cX5_valueOf 68 = .ok (.iload 6, 2) := by decide +kernel
theorem dX5_valueOf_70 : decode cX5_valueOf 70 = .ok (.iaload, 1) := by decide +kernel
theorem dX5_valueOf_71 : decode cX5_valueOf 71 = .ok (.isub, 1) := by decide +kernel
theorem dX5_valueOf_72 : decode cX5_valueOf 72 = .ok (.istore 7, 2) := by decide +kernel
theorem dX5_valueOf_74 : decode cX5_valueOf 74 = .ok (.iload 7, 2) := by decide +kernel
theorem dX5_valueOf_76 : decode cX5_valueOf 76 = .ok (.ifCond .ge 23, 3) := by decide +kernel
theorem dX5_valueOf_79 : decode cX5_valueOf 79 = .ok (.aload_n 0, 1) := by decide +kernel
theorem dX5_valueOf_80 : decode cX5_valueOf 80 = .ok (.getfield 21, 3) := by decide +kernel
theorem dX5_valueOf_83 : decode cX5_valueOf 83 = .ok (.iload 5, 2) := by decide +kernel
theorem dX5_valueOf_85 : decode cX5_valueOf 85 = .ok (.aload_n 3, 1) := by decide +kernel
theorem dX5_valueOf_86 : decode cX5_valueOf 86 = .ok (.getfield 38, 3) := by decide +kernel
theorem dX5_valueOf_89 : decode cX5_valueOf 89 = .ok (.iload 6, 2) := by decide +kernel
theorem dX5_valueOf_91 : decode cX5_valueOf 91 = .ok (.iaload, 1) := by decide +kernel
theorem dX5_valueOf_92 : decode cX5_valueOf 92 = .ok (.iastore, 1) := by decide +kernel
theorem dX5_valueOf_93 : decode cX5_valueOf 93 = .ok (.iinc 5 1, 3) := by decide +kernel
theorem dX5_valueOf_96 : decode cX5_valueOf 96 = .ok (.goto 115, 3) := by decide +kernel
theorem dX5_valueOf_99 : decode cX5_valueOf 99 = .ok (.iload 7, 2) := by decide +kernel
theorem dX5_valueOf_101 : decode cX5_valueOf 101 = .ok (.bipush 6, 2) := by decide +kernel
theorem dX5_valueOf_103 : decode cX5_valueOf 103 = .ok (.if_icmp .ge 23, 3) := by decide +kernel
theorem dX5_valueOf_106 : decode cX5_valueOf 106 = .ok (.aload_n 0, 1) := by decide +kernel
theorem dX5_valueOf_107 : decode cX5_valueOf 107 = .ok (.getfield 21, 3) := by decide +kernel
theorem dX5_valueOf_110 : decode cX5_valueOf 110 = .ok (.iload 5, 2) := by decide +kernel
theorem dX5_valueOf_112 : decode cX5_valueOf 112 = .ok (.aload_n 0, 1) := by decide +kernel
theorem dX5_valueOf_113 : decode cX5_valueOf 113 = .ok (.getfield 17, 3) := by decide +kernel
theorem dX5_valueOf_116 : decode cX5_valueOf 116 = .ok (.iload 7, 2) := by decide +kernel
theorem dX5_valueOf_118 : decode cX5_valueOf 118 = .ok (.iaload, 1) := by decide +kernel
theorem dX5_valueOf_119 : decode cX5_valueOf 119 = .ok (.iastore, 1) := by decide +kernel
theorem dX5_valueOf_120 : decode cX5_valueOf 120 = .ok (.iinc 5 1, 3) := by decide +kernel
theorem dX5_valueOf_123 : decode cX5_valueOf 123 = .ok (.goto 88, 3) := by decide +kernel
theorem dX5_valueOf_126 : decode cX5_valueOf 126 = .ok (.iload 5, 2) := by decide +kernel
theorem dX5_valueOf_128 : decode cX5_valueOf 128 = .ok (.iconst 1, 1) := by decide +kernel
theorem dX5_valueOf_129 : decode cX5_valueOf 129 = .ok (.if_icmp .lt 43, 3) := by decide +kernel
theorem dX5_valueOf_132 : decode cX5_valueOf 132 = .ok (.iload 7, 2) := by decide +kernel
theorem dX5_valueOf_134 : decode cX5_valueOf 134 = .ok (.bipush 11, 2) := by decide +kernel
theorem dX5_valueOf_136 : decode cX5_valueOf 136 = .ok (.if_icmp .eq 10, 3) := by decide +kernel
theorem dX5_valueOf_139 : decode cX5_valueOf 139 = .ok (.iload 7, 2) := by decide +kernel
theorem dX5_valueOf_141 : decode cX5_valueOf 141 = .ok (.bipush 23, 2) := by decide +kernel
theorem dX5_valueOf_143 : decode cX5_valueOf 143 = .ok (.if_icmp .ne 29, 3) := by decide +kernel
theorem dX5_valueOf_146 : decode cX5_valueOf 146 = .ok (.aload_n 0, 1) := by decide +kernel
theorem dX5_valueOf_147 : decode cX5_valueOf 147 = .ok (.getfield 21, 3) := by decide +kernel
theorem dX5_valueOf_150 : decode cX5_valueOf 150 = .ok (.iload 5, 2) := by decide +kernel
theorem dX5_valueOf_152 : decode cX5_valueOf 152 = .ok (.iconst 1, 1) := by decide +kernel
theorem dX5_valueOf_153 : decode cX5_valueOf 153 = .ok (.isub, 1) := by decide +kernel
theorem dX5_valueOf_154 : decode cX5_valueOf 154 = .ok (.iload 7, 2) := by decide +kernel
theorem dX5_valueOf_156 : decode cX5_valueOf 156 = .ok (.aload_n 0, 1) := by decide +kernel
theorem dX5_valueOf_157 : decode cX5_valueOf 157 = .ok (.getfield 21, 3) := by decide +kernel
theorem dX5_valueOf_160 : decode cX5_valueOf 160 = .ok (.iload 5, 2) := by decide +kernel
theorem dX5_valueOf_162 : decode cX5_valueOf 162 = .ok (.iconst 1, 1) := by decide +kernel
theorem dX5_valueOf_163 : decode cX5_valueOf 163 = .ok (.isub, 1) := by decide +kernel
theorem dX5_valueOf_164 : decode cX5_valueOf 164 = .ok (.iaload, 1) := by decide +kernel
theorem dX5_valueOf_165 : decode cX5_valueOf 165 = .ok (.invokestatic 43, 3) := by decide +kernel
theorem dX5_valueOf_168 : decode cX5_valueOf 168 = .ok (.iastore, 1) := by decide +kernel
theorem dX5_valueOf_169 : decode cX5_valueOf 169 = .ok (.goto 42, 3) := by decide +kernel
theorem dX5_valueOf_172 : decode cX5_valueOf 172 = .ok (.iload 5, 2) := by decide +kernel
theorem dX5_valueOf_174 : decode cX5_valueOf 174 = .ok (.iconst 2, 1) := by decide +kernel
theorem dX5_valueOf_175 : decode cX5_valueOf 175 = .ok (.if_icmp .lt 36, 3) := by decide +kernel
theorem dX5_valueOf_178 : decode cX5_valueOf 178 = .ok (.iinc 5 (-1), 3) := by decide +kernel
theorem dX5_valueOf_181 : decode cX5_valueOf 181 = .ok (.aload_n 0, 1) := by decide +kernel
theorem dX5_valueOf_182 : decode cX5_valueOf 182 = .ok (.getfield 21, 3) := by decide +kernel
theorem dX5_valueOf_185 : decode cX5_valueOf 185 = .ok (.iload 5, 2) := by decide +kernel
theorem dX5_valueOf_187 : decode cX5_valueOf 187 = .ok (.iconst 1, 1) := by decide +kernel
theorem dX5_valueOf_188 : decode cX5_valueOf 188 = .ok (.isub, 1) := by decide +kernel
theorem dX5_valueOf_189 : decode cX5_valueOf 189 = .ok (.iload 7, 2) := by decide +kernel
theorem dX5_valueOf_191 : decode cX5_valueOf 191 = .ok (.aload_n 0, 1) := by decide +kernel
theorem dX5_valueOf_192 : decode cX5_valueOf 192 = .ok (.getfield 21, 3) := by decide +kernel
theorem dX5_valueOf_195 : decode cX5_valueOf 195 = .ok (.iload 5, 2) := by decide +kernel
theorem dX5_valueOf_197 : decode cX5_valueOf 197 = .ok (.iconst 1, 1) := by decide +kernel
theorem dX5_valueOf_198 : decode cX5_valueOf 198 = .ok (.isub, 1) := by decide +kernel
theorem dX5_valueOf_199 : decode cX5_valueOf 199 = .ok (.iaload, 1) := by decide +kernel
theorem dX5_valueOf_200 : decode cX5_valueOf 200 = .ok (.aload_n 0, 1) := by decide +kernel
theorem dX5_valueOf_201 : decode cX5_valueOf 201 = .ok (.getfield 21, 3) := by decide +kernel
theorem dX5_valueOf_204 : decode cX5_valueOf 204 = .ok (.iload 5, 2) := by decide +kernel
theorem dX5_valueOf_206 : decode cX5_valueOf 206 = .ok (.iaload, 1) := by decide +kernel
theorem dX5_valueOf_207 : decode cX5_valueOf 207 = .ok (.invokestatic 47, 3) := by decide +kernel
theorem dX5_valueOf_210 : decode cX5_valueOf 210 = .ok (.iastore, 1) := by decide +kernel
theorem dX5_valueOf_211 : decode cX5_valueOf 211 = .ok (.iinc 6 1, 3) := by decide +kernel
theorem dX5_valueOf_214 : decode cX5_valueOf 214 = .ok (.goto (-168), 3) := by decide +kernel
