theorem dX7_text_9 : decode cX7_text 9 = .ok (.bipush (-4), 2) := by decide +kernel
theorem dX7_text_11 : decode cX7_text 11 = .ok (.ireturn, 1) := by decide +kernel
theorem dX7_text_12 : decode cX7_text 12 = .ok (.aload_n 0, 1) := by decide +kernel
theorem dX7_text_13 : decode cX7_text 13 = .ok (.iconst 0, 1) := by decide +kernel
theorem dX7_text_14 : decode cX7_text 14 = .ok (.putfield 130, 3) := by decide +kernel
theorem dX7_text_17 : decode cX7_text 17 = .ok (.aload_n 0, 1) := by decide +kernel
theorem dX7_text_18 : decode cX7_text 18 = .ok (.iconst 0, 1) := by decide +kernel
theorem dX7_text_19 : decode cX7_text 19 = .ok (.putfield 158, 3) := by decide +kernel
theorem dX7_text_22 : decode cX7_text 22 = .ok (.aload_n 0, 1) := by decide +kernel
theorem dX7_text_23 : decode cX7_text 23 = .ok (.iconst 0, 1) := by decide +kernel
theorem dX7_text_24 : decode cX7_text 24 = .ok (.putfield 142, 3) := by decide +kernel
theorem dX7_text_27 : decode cX7_text 27 = .ok (.aload_n 0, 1) := by decide +kernel
theorem dX7_text_28 : decode cX7_text 28 = .ok (.invokevirtual 189, 3) := by decide +kernel
theorem dX7_text_31 : decode cX7_text 31 = .ok (.istore_n 1, 1) := by decide +kernel
theorem dX7_text_32 : decode cX7_text 32 = .ok (.aload_n 0, 1) := by decide +kernel
theorem dX7_text_33 : decode cX7_text 33 = .ok (.iconst 0, 1) := by decide +kernel
theorem dX7_text_34 : decode cX7_text 34 = .ok (.putfield 127, 3) := by decide +kernel
theorem dX7_text_37 : decode cX7_text 37 = .ok (.iload_n 1, 1) := by decide +kernel
theorem dX7_text_38 : decode cX7_text 38 = .ok (.ifCond .ne 11, 3) := by decide +kernel
theorem dX7_text_41 : decode cX7_text 41 = .ok (.bipush (-100), 2) := by decide +kernel
theorem dX7_text_43 : decode cX7_text 43 = .ok (.aload_n 0, 1) := by decide +kernel
theorem dX7_text_44 : decode cX7_text 44 = .ok (.getfield 133, 3) := by decide +kernel
theorem dX7_text_47 : decode cX7_text 47 = .ok (.isub, 1) := by decide +kernel
theorem dX7_text_48 : decode cX7_text 48 = .ok (.ireturn, 1) := by decide +kernel
theorem dX7_text_49 : decode cX7_text 49 = .ok (.aload_n 0, 1) := by decide +kernel
theorem dX7_text_50 : decode cX7_text 50 = .ok (.dup, 1) := by decide +kernel
theorem dX7_text_51 : decode cX7_text 51 = .ok (.getfield 32, 3) := by decide +kernel
theorem dX7_text_54 : decode cX7_text 54 = .ok (.iconst 1, 1) := by decide +kernel
theorem dX7_text_55 : decode cX7_text 55 = .ok (.iadd, 1) := by decide +kernel
theorem dX7_text_56 : decode cX7_text 56 = .ok (.putfield 32, 3) := by decide +kernel
theorem dX7_text_59 : decode cX7_text 59 = .ok (.aload_n 0, 1) := by decide +kernel
theorem dX7_text_60 : decode cX7_text 60 = .ok (.getfield 32, 3) := by decide +kernel
theorem dX7_text_63 : decode cX7_text 63 = .ok (.iconst 1, 1) := by decide +kernel
theorem dX7_text_64 : decode cX7_text 64 = .ok (.isub, 1) := by decide +kernel
theorem dX7_text_65 : decode cX7_text 65 = .ok (.ireturn, 1) := by decide +kernel
theorem dX7_force_0 : decode cX7_force 0 = .ok (.iload_n 1, 1) := by decide +kernel
theorem dX7_force_1 : decode cX7_force 1 = .ok (.iconst 0, 1) := by decide +kernel
theorem dX7_force_2 : decode cX7_force 2 = .ok (.aload_n 0, 1) := by decide +kernel
theorem dX7_force_3 : decode cX7_force 3 = .ok (.getfield 32, 3) := by decide +kernel
theorem dX7_force_6 : decode cX7_force 6 = .ok (.iconst 1, 1) := by decide +kernel
theorem dX7_force_7 : decode cX7_force 7 = .ok (.isub, 1) := by decide +kernel
theorem dX7_force_8 : decode cX7_force 8 = .ok (.invokestatic 86, 3) := by decide +kernel
theorem dX7_force_11 : decode cX7_force 11 = .ok (.ifCond .ne 6, 3) := by decide +kernel
theorem dX7_force_14 : decode cX7_force 14 = .ok (.bipush (-2), 2) := by decide +kernel
theorem dX7_force_16 : decode cX7_force 16 = .ok (.ireturn, 1) := by decide +kernel
theorem dX7_force_17 : decode cX7_force 17 = .ok (.aload_n 0, 1) := by decide +kernel
theorem dX7_force_18 : decode cX7_force 18 = .ok (.getfield 7, 3) := by decide +kernel
theorem dX7_force_21 : decode cX7_force 21 = .ok (.bipush 42, 2) := by decide +kernel
theorem dX7_force_23 : decode cX7_force 23 = .ok (.iaload, 1) := by decide +kernel
theorem dX7_force_24 : decode cX7_force 24 = .ok (.istore_n 2, 1) := by decide +kernel
theorem dX7_force_25 : decode cX7_force 25 = .ok (.aload_n 0, 1) := by decide +kernel
theorem dX7_force_26 : decode cX7_force 26 = .ok (.getfield 7, 3) := by decide +kernel
theorem dX7_force_29 : decode cX7_force 29 = .ok (.bipush 42, 2) := by decide +kernel
theorem dX7_force_31 : decode cX7_force 31 = .ok (.iload_n 1, 1) := by decide +kernel
theorem dX7_force_32 : decode cX7_force 32 = .ok (.iastore, 1) := by decide +kernel
theorem dX7_force_33 : decode cX7_force 33 = .ok (.iload_n 2, 1) := by decide +kernel
theorem dX7_force_34 : decode cX7_force 34 = .ok (.ireturn, 1) := by decide +kernel
theorem dX7_yes_0 : decode cX7_yes 0 = .ok (.iload_n 0, 1) := by decide +kernel
theorem dX7_yes_1 : decode cX7_yes 1 = .ok (.ifCond .eq 7, 3) := by decide +kernel
theorem dX7_yes_4 : decode cX7_yes 4 = .ok (.iconst 1, 1) := by decide +kernel
theorem dX7_yes_5 : decode cX7_yes 5 = .ok (.goto 4, 3) := by decide +kernel
theorem dX7_yes_8 : decode cX7_yes 8 = .ok (.iconst 0, 1) := by decide +kernel
theorem dX7_yes_9 : decode cX7_yes 9 = .ok (.ireturn, 1) := by decide +kernel
theorem dX7_deed_0 : decode cX7_deed 0 = .ok (.iload_n 0, 1) := by decide +kernel
theorem dX7_deed_1 : decode cX7_deed 1 = .ok (.tableswitch 113 (-26) (-20) #[109, 105, 91, 77, 113, 60, 43], 43) := by decide +kernel
theorem dX7_deed_44 : decode cX7_deed 44 = .ok (.iload_n 1, 1) := by decide +kernel
theorem dX7_deed_45 : decode cX7_deed 45 = .ok (.ifCond .ne 7, 3) := by decide +kernel
theorem dX7_deed_48 : decode cX7_deed 48 = .ok (.iload_n 2, 1) := by decide +kernel
theorem dX7_deed_49 : decode cX7_deed 49 = .ok (.ifCond .eq 7, 3) := by decide +kernel
theorem dX7_deed_52 : decode cX7_deed 52 = .ok (.iconst 1, 1) := by decide +kernel
theorem dX7_deed_53 : decode cX7_deed 53 = .ok (.goto 4, 3) := by decide +kernel
theorem dX7_deed_56 : decode cX7_deed 56 = .ok (.iconst 0, 1) := by decide +kernel
theorem dX7_deed_57 : decode cX7_deed 57 = .ok (.invokestatic 192, 3) := by decide +kernel
theorem dX7_deed_60 : decode cX7_deed 60 = .ok (.ireturn, 1) := by decide +kernel
theorem dX7_deed_61 : decode cX7_deed 61 = .ok (.iload_n 1, 1) := by decide +kernel
theorem dX7_deed_62 : decode cX7_deed 62 = .ok (.ifCond .eq 11, 3) := by decide +kernel
theorem dX7_deed_65 : decode cX7_deed 65 = .ok (.iload_n 2, 1) := by decide +kernel
theorem dX7_deed_66 : decode cX7_deed 66 = .ok (.ifCond .eq 7, 3) := by decide +kernel
theorem dX7_deed_69 : decode cX7_deed 69 = .ok (.iconst 1, 1) := by decide +kernel
theorem dX7_deed_70 : decode cX7_deed 70 = .ok (.goto 4, 3) := by decide +kernel
theorem dX7_deed_73 : decode cX7_deed 73 = .ok (.iconst 0, 1) := by decide +kernel
theorem dX7_deed_74 : decode cX7_deed 74 = .ok (.invokestatic 192, 3) := by decide +kernel
theorem dX7_deed_77 : decode cX7_deed 77 = .ok (.ireturn, 1) := by decide +kernel
theorem dX7_deed_78 : decode cX7_deed 78 = .ok (.iload_n 1, 1) := by decide +kernel
theorem dX7_deed_79 : decode cX7_deed 79 = .ok (.iload_n 2, 1) := by decide +kernel
theorem dX7_deed_80 : decode cX7_deed 80 = .ok (.if_icmp .ge 7, 3) := by decide +kernel
theorem dX7_deed_83 : decode cX7_deed 83 = .ok (.iconst 1, 1) := by decide +kernel
theorem dX7_deed_84 : decode cX7_deed 84 = .ok (.goto 4, 3) := by decide +kernel
theorem dX7_deed_87 : decode cX7_deed 87 = .ok (.iconst 0, 1) := by decide +kernel
theorem dX7_deed_88 : decode cX7_deed 88 = .ok (.invokestatic 192, 3) := by decide +kernel
theorem dX7_deed_91 : decode cX7_deed 91 = .ok (.ireturn, 1) := by decide +kernel
theorem dX7_deed_92 : decode cX7_deed 92 = .ok (.iload_n 1, 1) := by decide +kernel
theorem dX7_deed_93 : decode cX7_deed 93 = .ok (.iload_n 2, 1) := by decide +kernel
theorem dX7_deed_94 : decode cX7_deed 94 = .ok (.if_icmp .ne 7, 3) := by decide +kernel
theorem dX7_deed_97 : decode cX7_deed 97 = .ok (.iconst 1, 1) := by decide +kernel
theorem dX7_deed_98 : decode cX7_deed 98 = .ok (.goto 4, 3) := by decide +kernel
theorem dX7_deed_101 : decode cX7_deed 101 = .ok (.iconst 0, 1) := by decide +kernel
theorem dX7_deed_102 : decode cX7_deed 102 = .ok (.invokestatic 192, 3) := by decide +kernel
theorem dX7_deed_105 : decode cX7_deed 105 = .ok (.ireturn, 1) := by decide +kernel
theorem dX7_deed_106 : decode cX7_deed 106 = .ok (.iload_n 1, 1) := by decide +kernel
theorem dX7_deed_107 : decode cX7_deed 107 = .ok (.iload_n 2, 1) := by decide +kernel
theorem dX7_deed_108 : decode cX7_deed 108 = .ok (.iadd, 1) := by decide +kernel
theorem dX7_deed_109 : decode cX7_deed 109 = .ok (.ireturn, 1) := by decide +kernel
theorem dX7_deed_110 : decode cX7_deed 110 = .ok (.iload_n 1, 1) := by decide +kernel
theorem dX7_deed_111 : decode cX7_deed 111 = .ok (.iload_n 2, 1) := by decide +kernel
theorem dX7_deed_112 : decode cX7_deed 112 = .ok (.isub, 1) := by decide +kernel
theorem dX7_deed_113 : decode cX7_deed 113 = .ok (.ireturn, 1) := by decide +kernel
theorem dX7_deed_114 : decode cX7_deed 114 = .ok (.iload_n 1, 1) := by decide +kernel
theorem dX7_deed_115 : decode cX7_deed 115 = .ok (.iload_n 2, 1) := by decide +kernel
theorem dX7_deed_116 : decode cX7_deed 116 = .ok (.imul, 1) := by decide +kernel
theorem dX7_deed_117 : decode cX7_deed 117 = .ok (.ireturn, 1) := by decide +kernel
theorem dX7_tell_0 : decode cX7_tell 0 = .ok (.aload_n 0, 1) := by decide +kernel
theorem dX7_tell_1 : decode cX7_tell 1 = .ok (.getfield 7, 3) := by decide +kernel
theorem dX7_tell_4 : decode cX7_tell 4 = .ok (.bipush 42, 2) := by decide +kernel
theorem dX7_tell_6 : decode cX7_tell 6 = .ok (.iaload, 1) := by decide +kernel
theorem dX7_tell_7 : decode cX7_tell 7 = .ok (.istore 4, 2) := by decide +kernel
theorem dX7_tell_9 : decode cX7_tell 9 = .ok (.iload_n 1, 1) := by decide +kernel
theorem dX7_tell_10 : decode cX7_tell 10 = .ok (.ifCond .ne 7, 3) := by decide +kernel
theorem dX7_tell_13 : decode cX7_tell 13 = .ok (.iconst 0, 1) := by decide +kernel
theorem dX7_tell_14 : decode cX7_tell 14 = .ok (.goto 16, 3) := by decide +kernel
theorem dX7_tell_17 : decode cX7_tell 17 = .ok (.aload_n 0, 1) := by decide +kernel
theorem dX7_tell_18 : decode cX7_tell 18 = .ok (.getfield 25, 3) := by decide +kernel
theorem dX7_tell_21 : decode cX7_tell 21 = .ok (.iconst 3, 1) := by decide +kernel
theorem dX7_tell_22 : decode cX7_tell 22 = .ok (.iload 4, 2) := by decide +kernel
theorem dX7_tell_24 : decode cX7_tell 24 = .ok (.imul, 1) := by decide +kernel
theorem dX7_tell_25 : decode cX7_tell 25 = .ok (.iload_n 1, 1) := by decide +kernel
theorem dX7_tell_26 : decode cX7_tell 26 = .ok (.iadd, 1) := by decide +kernel
theorem dX7_tell_27 : decode cX7_tell 27 = .ok (.iconst 1, 1) := by decide +kernel
theorem dX7_tell_28 : decode cX7_tell 28 = .ok (.isub, 1) := by decide +kernel
theorem dX7_tell_29 : decode cX7_tell 29 = .ok (.iaload, 1) := by decide +kernel
theorem dX7_tell_30 : decode cX7_tell 30 = .ok (.istore 5, 2) := by decide +kernel
theorem dX7_tell_32 : decode cX7_tell 32 = .ok (.iconst 0, 1) := by decide +kernel
theorem dX7_tell_33 : decode cX7_tell 33 = .ok (.istore 6, 2) := by decide +kernel
theorem dX7_tell_35 : decode cX7_tell 35 = .ok (.iload 5, 2) := by decide +kernel
theorem dX7_tell_37 : decode cX7_tell 37 = .ok (.istore 7, 2) := by decide +kernel
theorem dX7_tell_39 : decode cX7_tell 39 = .ok (.iload 7, 2) := by decide +kernel
theorem dX7_tell_41 : decode cX7_tell 41 = .ok (.aload_n 0, 1) := by decide +kernel
theorem dX7_tell_42 : decode cX7_tell 42 = .ok (.getfield 25, 3) := by decide +kernel
theorem dX7_tell_45 : decode cX7_tell 45 = .ok (.iconst 3, 1) := by decide +kernel
theorem dX7_tell_46 : decode cX7_tell 46 = .ok (.iload 4, 2) := by decide +kernel
theorem dX7_tell_48 : decode cX7_tell 48 = .ok (.imul, 1) := by decide +kernel
theorem dX7_tell_49 : decode cX7_tell 49 = .ok (.iload_n 1, 1) := by decide +kernel
theorem dX7_tell_50 : decode cX7_tell 50 = .ok (.iadd, 1) := by decide +kernel
theorem dX7_tell_51 : decode cX7_tell 51 = .ok (.iaload, 1) := by decide +kernel
theorem dX7_tell_52 : decode cX7_tell 52 = .ok (.if_icmp .ge 272, 3) := by decide +kernel
theorem dX7_tell_55 : decode cX7_tell 55 = .ok (.aload_n 0, 1) := by decide +kernel
theorem dX7_tell_56 : decode cX7_tell 56 = .ok (.getfield 22, 3) := by decide +kernel
theorem dX7_tell_59 : decode cX7_tell 59 = .ok (.sipush 160, 3) := by decide +kernel
theorem dX7_tell_62 : decode cX7_tell 62 = .ok (.iload 4, 2) := by decide +kernel
theorem dX7_tell_64 : decode cX7_tell 64 = .ok (.imul, 1) := by decide +kernel
theorem dX7_tell_65 : decode cX7_tell 65 = .ok (.iload 7, 2) := by decide +kernel
theorem dX7_tell_67 : decode cX7_tell 67 = .ok (.iadd, 1) := by decide +kernel
theorem dX7_tell_68 : decode cX7_tell 68 = .ok (.iaload, 1) := by decide +kernel
theorem dX7_tell_69 : decode cX7_tell 69 = .ok (.istore 8, 2) := by decide +kernel
theorem dX7_tell_71 : decode cX7_tell 71 = .ok (.iload 8, 2) := by decide +kernel
theorem dX7_tell_73 : decode cX7_tell 73 = .ok (.ifCond .lt 18, 3) := by decide +kernel
theorem dX7_tell_76 : decode cX7_tell 76 = .ok (.aload_n 0, 1) := by decide +kernel
theorem dX7_tell_77 : decode cX7_tell 77 = .ok (.getfield 43, 3) := by decide +kernel
theorem dX7_tell_80 : decode cX7_tell 80 = .ok (.iload 6, 2) := by decide +kernel
theorem dX7_tell_82 : decode cX7_tell 82 = .ok (.iload 8, 2) := by decide +kernel
theorem dX7_tell_84 : decode cX7_tell 84 = .ok (.iastore, 1) := by decide +kernel
theorem dX7_tell_85 : decode cX7_tell 85 = .ok (.iinc 6 1, 3) := by decide +kernel
theorem dX7_tell_88 : decode cX7_tell 88 = .ok (.goto 230, 3) := by decide +kernel
theorem dX7_tell_91 : decode cX7_tell 91 = .ok (.iload 8, 2) := by decide +kernel
theorem dX7_tell_93 : decode cX7_tell 93 = .ok (.bipush (-20), 2) := by decide +kernel
theorem dX7_tell_95 : decode cX7_tell 95 = .ok (.if_icmp .le 122, 3) := by decide +kernel
theorem dX7_tell_98 : decode cX7_tell 98 = .ok (.bipush (-10), 2) := by decide +kernel
theorem dX7_tell_100 : decode cX7_tell 100 = .ok (.iload 8, 2) := by decide +kernel
theorem dX7_tell_102 : decode cX7_tell 102 = .ok (.isub, 1) := by decide +kernel
theorem dX7_tell_103 : decode cX7_tell 103 = .ok (.istore 9, 2) := by decide +kernel
theorem dX7_tell_105 : decode cX7_tell 105 = .ok (.aload_n 0, 1) := by decide +kernel
theorem dX7_tell_106 : decode cX7_tell 106 = .ok (.getfield 43, 3) := by decide +kernel
theorem dX7_tell_109 : decode cX7_tell 109 = .ok (.iload 6, 2) := by decide +kernel
theorem dX7_tell_111 : decode cX7_tell 111 = .ok (.iload 9, 2) := by decide +kernel
theorem dX7_tell_113 : decode cX7_tell 113 = .ok (.ifCond .ne 12, 3) := by decide +kernel
theorem dX7_tell_116 : decode cX7_tell 116 = .ok (.aload_n 0, 1) := by decide +kernel
theorem dX7_tell_117 : decode cX7_tell 117 = .ok (.iload_n 2, 1) := by decide +kernel
theorem dX7_tell_118 : decode cX7_tell 118 = .ok (.iconst 2, 1) := by decide +kernel
theorem dX7_tell_119 : decode cX7_tell 119 = .ok (.invokevirtual 108, 3) := by decide +kernel
theorem dX7_tell_122 : decode cX7_tell 122 = .ok (.goto 88, 3) := by decide +kernel
theorem dX7_tell_125 : decode cX7_tell 125 = .ok (.iload 9, 2) := by decide +kernel
theorem dX7_tell_127 : decode cX7_tell 127 = .ok (.iconst 3, 1) := by decide +kernel
theorem dX7_tell_128 : decode cX7_tell 128 = .ok (.if_icmp .ne 12, 3) := by decide +kernel
theorem dX7_tell_131 : decode cX7_tell 131 = .ok (.aload_n 0, 1) := by decide +kernel
theorem dX7_tell_132 : decode cX7_tell 132 = .ok (.iload_n 2, 1) := by decide +kernel
theorem dX7_tell_133 : decode cX7_tell 133 = .ok (.iconst 1, 1) := by decide +kernel
theorem dX7_tell_134 : decode cX7_tell 134 = .ok (.invokevirtual 108, 3) := by decide +kernel
theorem dX7_tell_137 : decode cX7_tell 137 = .ok (.goto 73, 3) := by decide +kernel
theorem dX7_tell_140 : decode cX7_tell 140 = .ok (.iload 9, 2) := by decide +kernel
theorem dX7_tell_142 : decode cX7_tell 142 = .ok (.iconst 4, 1) := by decide +kernel
theorem dX7_tell_143 : decode cX7_tell 143 = .ok (.if_icmp .ne 13, 3) := by decide +kernel
theorem dX7_tell_146 : decode cX7_tell 146 = .ok (.aload_n 0, 1) := by decide +kernel
theorem dX7_tell_147 : decode cX7_tell 147 = .ok (.getfield 7, 3) := by decide +kernel
theorem dX7_tell_150 : decode cX7_tell 150 = .ok (.bipush 41, 2) := by decide +kernel
theorem dX7_tell_152 : decode cX7_tell 152 = .ok (.iaload, 1) := by decide +kernel
theorem dX7_tell_153 : decode cX7_tell 153 = .ok (.goto 57, 3) := by decide +kernel
theorem dX7_tell_156 : decode cX7_tell 156 = .ok (.iload 9, 2) := by decide +kernel
theorem dX7_tell_158 : decode cX7_tell 158 = .ok (.iconst 5, 1) := by decide +kernel
theorem dX7_tell_159 : decode cX7_tell 159 = .ok (.if_icmp .ne 12, 3) := by decide +kernel
theorem dX7_tell_162 : decode cX7_tell 162 = .ok (.aload_n 0, 1) := by decide +kernel
theorem dX7_tell_163 : decode cX7_tell 163 = .ok (.iload_n 2, 1) := by decide +kernel
theorem dX7_tell_164 : decode cX7_tell 164 = .ok (.iconst 3, 1) := by decide +kernel
theorem dX7_tell_165 : decode cX7_tell 165 = .ok (.invokevirtual 108, 3) := by decide +kernel
theorem dX7_tell_168 : decode cX7_tell 168 = .ok (.goto 42, 3) := by decide +kernel
theorem dX7_tell_171 : decode cX7_tell 171 = .ok (.iload_n 3, 1) := by decide +kernel
theorem dX7_tell_172 : decode cX7_tell 172 = .ok (.iconst (-1), 1) := by decide +kernel
theorem dX7_tell_173 : decode cX7_tell 173 = .ok (.if_icmp .ne 7, 3) := by decide +kernel
theorem dX7_tell_176 : decode cX7_tell 176 = .ok (.iconst 0, 1) := by decide +kernel
theorem dX7_tell_177 : decode cX7_tell 177 = .ok (.goto 33, 3) := by decide +kernel
theorem dX7_tell_180 : decode cX7_tell 180 = .ok (.iload 9, 2) := by decide +kernel
theorem dX7_tell_182 : decode cX7_tell 182 = .ok (.iconst 1, 1) := by decide +kernel
theorem dX7_tell_183 : decode cX7_tell 183 = .ok (.if_icmp .ne 12, 3) := by decide +kernel
theorem dX7_tell_186 : decode cX7_tell 186 = .ok (.aload_n 0, 1) := by decide +kernel
theorem dX7_tell_187 : decode cX7_tell 187 = .ok (.iload_n 3, 1) := by decide +kernel
theorem dX7_tell_188 : decode cX7_tell 188 = .ok (.iconst 2, 1) := by decide +kernel
theorem dX7_tell_189 : decode cX7_tell 189 = .ok (.invokevirtual 108, 3) := by decide +kernel
theorem dX7_tell_192 : decode cX7_tell 192 = .ok (.goto 18, 3) := by decide +kernel
theorem dX7_tell_195 : decode cX7_tell 195 = .ok (.aload_n 0, 1) := by decide +kernel
theorem dX7_tell_196 : decode cX7_tell 196 = .ok (.iload_n 2, 1) := by decide +kernel
theorem dX7_tell_197 : decode cX7_tell 197 = .ok (.iconst 3, 1) := by decide +kernel
theorem dX7_tell_198 : decode cX7_tell 198 = .ok (.invokevirtual 108, 3) := by decide +kernel
theorem dX7_tell_201 : decode cX7_tell 201 = .ok (.aload_n 0, 1) := by decide +kernel
theorem dX7_tell_202 : decode cX7_tell 202 = .ok (.iload_n 3, 1) := by decide +kernel
theorem dX7_tell_203 : decode cX7_tell 203 = .ok (.iconst 3, 1) := by decide +kernel
theorem dX7_tell_204 : decode cX7_tell 204 = .ok (.invokevirtual 108, 3) := by decide +kernel
theorem dX7_tell_207 : decode cX7_tell 207 = .ok (.invokestatic 196, 3) := by decide +kernel
theorem dX7_tell_210 : decode cX7_tell 210 = .ok (.iastore, 1) := by decide +kernel
theorem dX7_tell_211 : decode cX7_tell 211 = .ok (.iinc 6 1, 3) := by decide +kernel
theorem dX7_tell_214 : decode cX7_tell 214 = .ok (.goto 104, 3) := by decide +kernel
theorem dX7_tell_217 : decode cX7_tell 217 = .ok (.iload 8, 2) := by decide +kernel
theorem dX7_tell_219 : decode cX7_tell 219 = .ok (.bipush (-22), 2) := by decide +kernel
theorem dX7_tell_221 : decode cX7_tell 221 = .ok (.if_icmp .ne 35, 3) := by decide +kernel
theorem dX7_tell_224 : decode cX7_tell 224 = .ok (.aload_n 0, 1) := by decide +kernel
theorem dX7_tell_225 : decode cX7_tell 225 = .ok (.getfield 43, 3) := by decide +kernel
theorem dX7_tell_228 : decode cX7_tell 228 = .ok (.iload 6, 2) := by decide +kernel
theorem dX7_tell_230 : decode cX7_tell 230 = .ok (.iconst 1, 1) := by decide +kernel
theorem dX7_tell_231 : decode cX7_tell 231 = .ok (.isub, 1) := by decide +kernel
theorem dX7_tell_232 : decode cX7_tell 232 = .ok (.aload_n 0, 1) := by decide +kernel
theorem dX7_tell_233 : decode cX7_tell 233 = .ok (.getfield 43, 3) := by decide +kernel
theorem dX7_tell_236 : decode cX7_tell 236 = .ok (.iload 6, 2) := by decide +kernel
theorem dX7_tell_238 : decode cX7_tell 238 = .ok (.iconst 1, 1) := by decide +kernel
theorem dX7_tell_239 : decode cX7_tell 239 = .ok (.isub, 1) := by decide +kernel
theorem dX7_tell_240 : decode cX7_tell 240 = .ok (.iaload, 1) := by decide +kernel
theorem dX7_tell_241 : decode cX7_tell 241 = .ok (.ifCond .ne 7, 3) := by decide +kernel
theorem dX7_tell_244 : decode cX7_tell 244 = .ok (.iconst 1, 1) := by decide +kernel
theorem dX7_tell_245 : decode cX7_tell 245 = .ok (.goto 4, 3) := by decide +kernel
theorem dX7_tell_248 : decode cX7_tell 248 = .ok (.iconst 0, 1) := by decide +kernel
theorem dX7_tell_249 : decode cX7_tell 249 = .ok (.invokestatic 192, 3) := by decide +kernel
theorem dX7_tell_252 : decode cX7_tell 252 = .ok (.iastore, 1) := by decide +kernel
theorem dX7_tell_253 : decode cX7_tell 253 = .ok (.goto 65, 3) := by decide +kernel
theorem dX7_tell_256 : decode cX7_tell 256 = .ok (.iload 8, 2) := by decide +kernel
theorem dX7_tell_258 : decode cX7_tell 258 = .ok (.bipush (-28), 2) := by decide +kernel
theorem dX7_tell_260 : decode cX7_tell 260 = .ok (.if_icmp .ne 25, 3) := by decide +kernel
theorem dX7_tell_263 : decode cX7_tell 263 = .ok (.aload_n 0, 1) := by decide +kernel
theorem dX7_tell_264 : decode cX7_tell 264 = .ok (.getfield 43, 3) := by decide +kernel
theorem dX7_tell_267 : decode cX7_tell 267 = .ok (.iload 6, 2) := by decide +kernel
theorem dX7_tell_269 : decode cX7_tell 269 = .ok (.iconst 1, 1) := by decide +kernel
theorem dX7_tell_270 : decode cX7_tell 270 = .ok (.isub, 1) := by decide +kernel
theorem dX7_tell_271 : decode cX7_tell 271 = .ok (.aload_n 0, 1) := by decide +kernel
theorem dX7_tell_272 : decode cX7_tell 272 = .ok (.getfield 43, 3) := by decide +kernel
theorem dX7_tell_275 : decode cX7_tell 275 = .ok (.iload 6, 2) := by decide +kernel
theorem dX7_tell_277 : decode cX7_tell 277 = .ok (.iconst 1, 1) := by decide +kernel
theorem dX7_tell_278 : decode cX7_tell 278 = .ok (.isub, 1) := by decide +kernel
theorem dX7_tell_279 : decode cX7_tell 279 = .ok (.iaload, 1) := by decide +kernel
theorem dX7_tell_280 : decode cX7_tell 280 = .ok (.ineg, 1) := by decide +kernel
theorem dX7_tell_281 : decode cX7_tell 281 = .ok (.iastore, 1) := by decide +kernel
theorem dX7_tell_282 : decode cX7_tell 282 = .ok (.goto 36, 3) := by decide +kernel
theorem dX7_tell_285 : decode cX7_tell 285 = .ok (.iinc 6 (-1), 3) := by decide +kernel
theorem dX7_tell_288 : decode cX7_tell 288 = .ok (.aload_n 0, 1) := by decide +kernel
theorem dX7_tell_289 : decode cX7_tell 289 = .ok (.getfield 43, 3) := by decide +kernel
theorem dX7_tell_292 : decode cX7_tell 292 = .ok (.iload 6, 2) := by decide +kernel
theorem dX7_tell_294 : decode cX7_tell 294 = .ok (.iconst 1, 1) := by decide +kernel
theorem dX7_tell_295 : decode cX7_tell 295 = .ok (.isub, 1) := by decide +kernel
theorem dX7_tell_296 : decode cX7_tell 296 = .ok (.iload 8, 2) := by decide +kernel
theorem dX7_tell_298 : decode cX7_tell 298 = .ok (.aload_n 0, 1) := by decide +kernel
theorem dX7_tell_299 : decode cX7_tell 299 = .ok (.getfield 43, 3) := by decide +kernel
theorem dX7_tell_302 : decode cX7_tell 302 = .ok (.iload 6, 2) := by decide +kernel
theorem dX7_tell_304 : decode cX7_tell 304 = .ok (.iconst 1, 1) := by decide +kernel
theorem dX7_tell_305 : decode cX7_tell 305 = .ok (.isub, 1) := by decide +kernel
theorem dX7_tell_306 : decode cX7_tell 306 = .ok (.iaload, 1) := by decide +kernel
theorem dX7_tell_307 : decode cX7_tell 307 = .ok (.aload_n 0, 1) := by decide +kernel
theorem dX7_tell_308 : decode cX7_tell 308 = .ok (.getfield 43, 3) := by decide +kernel
theorem dX7_tell_311 : decode cX7_tell 311 = .ok (.iload 6, 2) := by decide +kernel
theorem dX7_tell_313 : decode cX7_tell 313 = .ok (.iaload, 1) := by decide +kernel
theorem dX7_tell_314 : decode cX7_tell 314 = .ok (.invokestatic 199, 3) := by decide +kernel
theorem dX7_tell_317 : decode cX7_tell 317 = .ok (.iastore, 1) := by decide +kernel
theorem dX7_tell_318 : decode cX7_tell 318 = .ok (.iinc 7 1, 3) := by decide +kernel
theorem dX7_tell_321 : decode cX7_tell 321 = .ok (.goto (-282), 3) := by decide +kernel
theorem dX7_tell_324 : decode cX7_tell 324 = .ok (.aload_n 0, 1) := by decide +kernel
theorem dX7_tell_325 : decode cX7_tell 325 = .ok (.getfield 43, 3) := by decide +kernel
theorem dX7_tell_328 : decode cX7_tell 328 = .ok (.iconst 0, 1) := by decide +kernel
theorem dX7_tell_329 : decode cX7_tell 329 = .ok (.iaload, 1) := by decide +kernel
theorem dX7_tell_330 : decode cX7_tell 330 = .ok (.ireturn, 1) := by decide +kernel
theorem dX7_wears_0 : decode cX7_wears 0 = .ok (.aload_n 0, 1) := by decide +kernel
theorem dX7_wears_1 : decode cX7_wears 1 = .ok (.iconst 0, 1) := by decide +kernel
theorem dX7_wears_2 : decode cX7_wears 2 = .ok (.iload_n 1, 1) := by decide +kernel
theorem dX7_wears_3 : decode cX7_wears 3 = .ok (.iconst (-1), 1) := by decide +kernel
theorem dX7_wears_4 : decode cX7_wears 4 = .ok (.invokevirtual 203, 3) := by decide +kernel
theorem dX7_wears_7 : decode cX7_wears 7 = .ok (.iconst 0, 1) := by decide +kernel
theorem dX7_wears_8 : decode cX7_wears 8 = .ok (.bipush 99, 2) := by decide +kernel
theorem dX7_wears_10 : decode cX7_wears 10 = .ok (.invokestatic 206, 3) := by decide +kernel
theorem dX7_wears_13 : decode cX7_wears 13 = .ok (.istore_n 2, 1) := by decide +kernel
theorem dX7_wears_14 : decode cX7_wears 14 = .ok (.aload_n 0, 1) := by decide +kernel
theorem dX7_wears_15 : decode cX7_wears 15 = .ok (.aload_n 0, 1) := by decide +kernel
theorem dX7_wears_16 : decode cX7_wears 16 = .ok (.iload_n 1, 1) := by decide +kernel
theorem dX7_wears_17 : decode cX7_wears 17 = .ok (.iconst 3, 1) := by decide +kernel
theorem dX7_wears_18 : decode cX7_wears 18 = .ok (.invokevirtual 108, 3) := by decide +kernel
theorem dX7_wears_21 : decode cX7_wears 21 = .ok (.invokevirtual 115, 3) := by decide +kernel
theorem dX7_wears_24 : decode cX7_wears 24 = .ok (.invokestatic 209, 3) := by decide +kernel
theorem dX7_wears_27 : decode cX7_wears 27 = .ok (.iconst 1, 1) := by decide +kernel
theorem dX7_wears_28 : decode cX7_wears 28 = .ok (.isub, 1) := by decide +kernel
theorem dX7_wears_29 : decode cX7_wears 29 = .ok (.istore_n 3, 1) := by decide +kernel
theorem dX7_wears_30 : decode cX7_wears 30 = .ok (.aload_n 0, 1) := by decide +kernel
theorem dX7_wears_31 : decode cX7_wears 31 = .ok (.iload_n 1, 1) := by decide +kernel
theorem dX7_wears_32 : decode cX7_wears 32 = .ok (.iconst 0, 1) := by decide +kernel
theorem dX7_wears_33 : decode cX7_wears 33 = .ok (.invokevirtual 108, 3) := by decide +kernel
theorem dX7_wears_36 : decode cX7_wears 36 = .ok (.tableswitch 114 1 5 #[36, 46, 50, 77, 97], 36) := by decide +kernel
theorem dX7_wears_72 : decode cX7_wears 72 = .ok (.iload_n 2, 1) := by decide +kernel
theorem dX7_wears_73 : decode cX7_wears 73 = .ok (.iload_n 3, 1) := by decide +kernel
theorem dX7_wears_74 : decode cX7_wears 74 = .ok (.iadd, 1) := by decide +kernel
theorem dX7_wears_75 : decode cX7_wears 75 = .ok (.iconst 0, 1) := by decide +kernel
theorem dX7_wears_76 : decode cX7_wears 76 = .ok (.bipush 99, 2) := by decide +kernel
theorem dX7_wears_78 : decode cX7_wears 78 = .ok (.invokestatic 206, 3) := by decide +kernel
theorem dX7_wears_81 : decode cX7_wears 81 = .ok (.ireturn, 1) := by decide +kernel
theorem dX7_wears_82 : decode cX7_wears 82 = .ok (.iload_n 2, 1) := by decide +kernel
theorem dX7_wears_83 : decode cX7_wears 83 = .ok (.iconst 2, 1) := by decide +kernel
theorem dX7_wears_84 : decode cX7_wears 84 = .ok (.idiv, 1) := by decide +kernel
theorem dX7_wears_85 : decode cX7_wears 85 = .ok (.ireturn, 1) := by decide +kernel
theorem dX7_wears_86 : decode cX7_wears 86 = .ok (.iload_n 2, 1) := by decide +kernel
theorem dX7_wears_87 : decode cX7_wears 87 = .ok (.iload_n 3, 1) := by decide +kernel
theorem dX7_wears_88 : decode cX7_wears 88 = .ok (.iadd, 1) := by decide +kernel
theorem dX7_wears_89 : decode cX7_wears 89 = .ok (.aload_n 0, 1) := by decide +kernel
theorem dX7_wears_90 : decode cX7_wears 90 = .ok (.iload_n 1, 1) := by decide +kernel
theorem dX7_wears_91 : decode cX7_wears 91 = .ok (.iconst 2, 1) := by decide +kernel
theorem dX7_wears_92 : decode cX7_wears 92 = .ok (.invokevirtual 108, 3) := by decide +kernel
theorem dX7_wears_95 : decode cX7_wears 95 = .ok (.bipush 20, 2) := by decide +kernel
theorem dX7_wears_97 : decode cX7_wears 97 = .ok (.if_icmp .ge 7, 3) := by decide +kernel
theorem dX7_wears_100 : decode cX7_wears 100 = .ok (.iconst 2, 1) := by decide +kernel
theorem dX7_wears_101 : decode cX7_wears 101 = .ok (.goto 4, 3) := by decide +kernel
theorem dX7_wears_104 : decode cX7_wears 104 = .ok (.iconst 1, 1) := by decide +kernel
theorem dX7_wears_105 : decode cX7_wears 105 = .ok (.imul, 1) := by decide +kernel
theorem dX7_wears_106 : decode cX7_wears 106 = .ok (.iconst 0, 1) := by decide +kernel
theorem dX7_wears_107 : decode cX7_wears 107 = .ok (.bipush 99, 2) := by decide +kernel
theorem dX7_wears_109 : decode cX7_wears 109 = .ok (.invokestatic 206, 3) := by decide +kernel
theorem dX7_wears_112 : decode cX7_wears 112 = .ok (.ireturn, 1) := by decide +kernel
theorem dX7_wears_113 : decode cX7_wears 113 = .ok (.aload_n 0, 1) := by decide +kernel
theorem dX7_wears_114 : decode cX7_wears 114 = .ok (.getfield 7, 3) := by decide +kernel
theorem dX7_wears_117 : decode cX7_wears 117 = .ok (.bipush 41, 2) := by decide +kernel
theorem dX7_wears_119 : decode cX7_wears 119 = .ok (.iaload, 1) := by decide +kernel
theorem dX7_wears_120 : decode cX7_wears 120 = .ok (.iconst 2, 1) := by decide +kernel
theorem dX7_wears_121 : decode cX7_wears 121 = .ok (.irem, 1) := by decide +kernel
theorem dX7_wears_122 : decode cX7_wears 122 = .ok (.ifCond .ne 7, 3) := by decide +kernel
theorem dX7_wears_125 : decode cX7_wears 125 = .ok (.iconst 0, 1) := by decide +kernel
theorem dX7_wears_126 : decode cX7_wears 126 = .ok (.goto 6, 3) := by decide +kernel
theorem dX7_wears_129 : decode cX7_wears 129 = .ok (.iload_n 2, 1) := by decide +kernel
theorem dX7_wears_130 : decode cX7_wears 130 = .ok (.iconst 2, 1) := by decide +kernel
theorem dX7_wears_131 : decode cX7_wears 131 = .ok (.idiv, 1) := by decide +kernel
theorem dX7_wears_132 : decode cX7_wears 132 = .ok (.ireturn, 1) := by decide +kernel
theorem dX7_wears_133 : decode cX7_wears 133 = .ok (.aload_n 0, 1) := by decide +kernel
theorem dX7_wears_134 : decode cX7_wears 134 = .ok (.iload_n 1, 1) := by decide +kernel
theorem dX7_wears_135 : decode cX7_wears 135 = .ok (.iconst 2, 1) := by decide +kernel
theorem dX7_wears_136 : decode cX7_wears 136 = .ok (.invokevirtual 108, 3) := by decide +kernel
theorem dX7_wears_139 : decode cX7_wears 139 = .ok (.bipush 50, 2) := by decide +kernel
theorem dX7_wears_141 : decode cX7_wears 141 = .ok (.if_icmp .le 7, 3) := by decide +kernel
theorem dX7_wears_144 : decode cX7_wears 144 = .ok (.iconst 0, 1) := by decide +kernel
theorem dX7_wears_145 : decode cX7_wears 145 = .ok (.goto 4, 3) := by decide +kernel
theorem dX7_wears_148 : decode cX7_wears 148 = .ok (.iload_n 2, 1) := by decide +kernel
theorem dX7_wears_149 : decode cX7_wears 149 = .ok (.ireturn, 1) := by decide +kernel
theorem dX7_wears_150 : decode cX7_wears 150 = .ok (.iload_n 2, 1) := by decide +kernel
theorem dX7_wears_151 : decode cX7_wears 151 = .ok (.ireturn, 1) := by decide +kernel
theorem dX7_carries_0 : decode cX7_carries 0 = .ok (.aload_n 0, 1) := by decide +kernel
theorem dX7_carries_1 : decode cX7_carries 1 = .ok (.iconst 1, 1) := by decide +kernel
theorem dX7_carries_2 : decode cX7_carries 2 = .ok (.iload_n 1, 1) := by decide +kernel
theorem dX7_carries_3 : decode cX7_carries 3 = .ok (.iconst (-1), 1) := by decide +kernel
theorem dX7_carries_4 : decode cX7_carries 4 = .ok (.invokevirtual 203, 3) := by decide +kernel
theorem dX7_carries_7 : decode cX7_carries 7 = .ok (.bipush (-99), 2) := by decide +kernel
theorem dX7_carries_9 : decode cX7_carries 9 = .ok (.bipush 99, 2) := by decide +kernel
theorem dX7_carries_11 : decode cX7_carries 11 = .ok (.invokestatic 206, 3) := by decide +kernel
theorem dX7_carries_14 : decode cX7_carries 14 = .ok (.istore_n 2, 1) := by decide +kernel
theorem dX7_carries_15 : decode cX7_carries 15 = .ok (.aload_n 0, 1) := by decide +kernel
theorem dX7_carries_16 : decode cX7_carries 16 = .ok (.iload_n 1, 1) := by decide +kernel
theorem dX7_carries_17 : decode cX7_carries 17 = .ok (.iconst 0, 1) := by decide +kernel
theorem dX7_carries_18 : decode cX7_carries 18 = .ok (.invokevirtual 108, 3) := by decide +kernel
theorem dX7_carries_21 : decode cX7_carries 21 = .ok (.tableswitch 91 1 5 #[35, 44, 47, 69, 89], 35) := by decide +kernel
theorem dX7_carries_56 : decode cX7_carries 56 = .ok (.iload_n 2, 1) := by decide +kernel
theorem dX7_carries_57 : decode cX7_carries 57 = .ok (.aload_n 0, 1) := by decide +kernel
theorem dX7_carries_58 : decode cX7_carries 58 = .ok (.iload_n 1, 1) := by decide +kernel
theorem dX7_carries_59 : decode cX7_carries 59 = .ok (.iconst 1, 1) := by decide +kernel
theorem dX7_carries_60 : decode cX7_carries 60 = .ok (.invokevirtual 108, 3) := by decide +kernel
theorem dX7_carries_63 : decode cX7_carries 63 = .ok (.iadd, 1) := by decide +kernel
theorem dX7_carries_64 : decode cX7_carries 64 = .ok (.ireturn, 1) := by decide +kernel
theorem dX7_carries_65 : decode cX7_carries 65 = .ok (.iload_n 2, 1) := by decide +kernel
theorem dX7_carries_66 : decode cX7_carries 66 = .ok (.ineg, 1) := by decide +kernel
theorem dX7_carries_67 : decode cX7_carries 67 = .ok (.ireturn, 1) := by decide +kernel
theorem dX7_carries_68 : decode cX7_carries 68 = .ok (.aload_n 0, 1) := by decide +kernel
theorem dX7_carries_69 : decode cX7_carries 69 = .ok (.iload_n 1, 1) := by decide +kernel
theorem dX7_carries_70 : decode cX7_carries 70 = .ok (.iconst 2, 1) := by decide +kernel
theorem dX7_carries_71 : decode cX7_carries 71 = .ok (.invokevirtual 108, 3) := by decide +kernel
theorem dX7_carries_74 : decode cX7_carries 74 = .ok (.ifCond .ne 7, 3) := by decide +kernel
theorem dX7_carries_77 : decode cX7_carries 77 = .ok (.iconst 0, 1) := by decide +kernel
theorem dX7_carries_78 : decode cX7_carries 78 = .ok (.goto 11, 3) := by decide +kernel
theorem dX7_carries_81 : decode cX7_carries 81 = .ok (.iload_n 2, 1) := by decide +kernel
theorem dX7_carries_82 : decode cX7_carries 82 = .ok (.aload_n 0, 1) := by decide +kernel
theorem dX7_carries_83 : decode cX7_carries 83 = .ok (.iload_n 1, 1) := by decide +kernel
theorem dX7_carries_84 : decode cX7_carries 84 = .ok (.iconst 1, 1) := by decide +kernel
theorem dX7_carries_85 : decode cX7_carries 85 = .ok (.invokevirtual 108, 3) := by decide +kernel
theorem dX7_carries_88 : decode cX7_carries 88 = .ok (.iadd, 1) := by decide +kernel
theorem dX7_carries_89 : decode cX7_carries 89 = .ok (.ireturn, 1) := by decide +kernel
theorem dX7_carries_90 : decode cX7_carries 90 = .ok (.iload_n 2, 1) := by decide +kernel
theorem dX7_carries_91 : decode cX7_carries 91 = .ok (.ineg, 1) := by decide +kernel
theorem dX7_carries_92 : decode cX7_carries 92 = .ok (.aload_n 0, 1) := by decide +kernel
theorem dX7_carries_93 : decode cX7_carries 93 = .ok (.iload_n 1, 1) := by decide +kernel
theorem dX7_carries_94 : decode cX7_carries 94 = .ok (.iconst 4, 1) := by decide +kernel
theorem dX7_carries_95 : decode cX7_carries 95 = .ok (.invokevirtual 108, 3) := by decide +kernel
theorem dX7_carries_98 : decode cX7_carries 98 = .ok (.iconst 1, 1) := by decide +kernel
theorem dX7_carries_99 : decode cX7_carries 99 = .ok (.if_icmp .ne 8, 3) := by decide +kernel
theorem dX7_carries_102 : decode cX7_carries 102 = .ok (.bipush 6, 2) := by decide +kernel
theorem dX7_carries_104 : decode cX7_carries 104 = .ok (.goto 4, 3) := by decide +kernel
theorem dX7_carries_107 : decode cX7_carries 107 = .ok (.iconst 0, 1) := by decide +kernel
theorem dX7_carries_108 : decode cX7_carries 108 = .ok (.iadd, 1) := by decide +kernel
theorem dX7_carries_109 : decode cX7_carries 109 = .ok (.ireturn, 1) := by decide +kernel
theorem dX7_carries_110 : decode cX7_carries 110 = .ok (.iconst 0, 1) := by decide +kernel
theorem dX7_carries_111 : decode cX7_carries 111 = .ok (.ireturn, 1) := by decide +kernel
theorem dX7_carries_112 : decode cX7_carries 112 = .ok (.iload_n 2, 1) := by decide +kernel
theorem dX7_carries_113 : decode cX7_carries 113 = .ok (.ireturn, 1) := by decide +kernel
theorem dX7_clashes_0 : decode cX7_clashes 0 = .ok (.aload_n 0, 1) := by decide +kernel
theorem dX7_clashes_1 : decode cX7_clashes 1 = .ok (.iconst 2, 1) := by decide +kernel
theorem dX7_clashes_2 : decode cX7_clashes 2 = .ok (.iload_n 1, 1) := by decide +kernel
theorem dX7_clashes_3 : decode cX7_clashes 3 = .ok (.iload_n 2, 1) := by decide +kernel
theorem dX7_clashes_4 : decode cX7_clashes 4 = .ok (.invokevirtual 203, 3) := by decide +kernel
theorem dX7_clashes_7 : decode cX7_clashes 7 = .ok (.ifCond .eq 7, 3) := by decide +kernel
theorem dX7_clashes_10 : decode cX7_clashes 10 = .ok (.iconst 1, 1) := by decide +kernel
theorem dX7_clashes_11 : decode cX7_clashes 11 = .ok (.goto 4, 3) := by decide +kernel
theorem dX7_clashes_14 : decode cX7_clashes 14 = .ok (.iconst 0, 1) := by decide +kernel
theorem dX7_clashes_15 : decode cX7_clashes 15 = .ok (.istore_n 3, 1) := by decide +kernel
theorem dX7_clashes_16 : decode cX7_clashes 16 = .ok (.iload_n 3, 1) := by decide +kernel
theorem dX7_clashes_17 : decode cX7_clashes 17 = .ok (.ifCond .eq 18, 3) := by decide +kernel
theorem dX7_clashes_20 : decode cX7_clashes 20 = .ok (.aload_n 0, 1) := by decide +kernel
theorem dX7_clashes_21 : decode cX7_clashes 21 = .ok (.iload_n 1, 1) := by decide +kernel
theorem dX7_clashes_22 : decode cX7_clashes 22 = .ok (.iconst 4, 1) := by decide +kernel
theorem dX7_clashes_23 : decode cX7_clashes 23 = .ok (.invokevirtual 108, 3) := by decide +kernel
theorem dX7_clashes_26 : decode cX7_clashes 26 = .ok (.aload_n 0, 1) := by decide +kernel
theorem dX7_clashes_27 : decode cX7_clashes 27 = .ok (.iload_n 2, 1) := by decide +kernel
theorem dX7_clashes_28 : decode cX7_clashes 28 = .ok (.iconst 4, 1) := by decide +kernel
theorem dX7_clashes_29 : decode cX7_clashes 29 = .ok (.invokevirtual 108, 3) := by decide +kernel
theorem dX7_clashes_32 : decode cX7_clashes 32 = .ok (.if_icmp .ne 12, 3) := by decide +kernel
theorem dX7_clashes_35 : decode cX7_clashes 35 = .ok (.aload_n 0, 1) := by decide +kernel
theorem dX7_clashes_36 : decode cX7_clashes 36 = .ok (.iload_n 2, 1) := by decide +kernel
theorem dX7_clashes_37 : decode cX7_clashes 37 = .ok (.iconst 2, 1) := by decide +kernel
theorem dX7_clashes_38 : decode cX7_clashes 38 = .ok (.invokevirtual 108, 3) := by decide +kernel
theorem dX7_clashes_41 : decode cX7_clashes 41 = .ok (.ifCond .ne 7, 3) := by decide +kernel
theorem dX7_clashes_44 : decode cX7_clashes 44 = .ok (.iconst 1, 1) := by decide +kernel
theorem dX7_clashes_45 : decode cX7_clashes 45 = .ok (.goto 4, 3) := by decide +kernel
theorem dX7_clashes_48 : decode cX7_clashes 48 = .ok (.iconst 0, 1) := by decide +kernel
theorem dX7_clashes_49 : decode cX7_clashes 49 = .ok (.istore 4, 2) := by decide +kernel
theorem dX7_clashes_51 : decode cX7_clashes 51 = .ok (.aload_n 0, 1) := by decide +kernel
theorem dX7_clashes_52 : decode cX7_clashes 52 = .ok (.iload_n 1, 1) := by decide +kernel
theorem dX7_clashes_53 : decode cX7_clashes 53 = .ok (.iconst 0, 1) := by decide +kernel
theorem dX7_clashes_54 : decode cX7_clashes 54 = .ok (.invokevirtual 108, 3) := by decide +kernel
theorem dX7_clashes_57 : decode cX7_clashes 57 = .ok (.tableswitch 104 1 5 #[35, 60, 63, 65, 88], 35) := by decide +kernel
theorem dX7_clashes_92 : decode cX7_clashes 92 = .ok (.iload_n 3, 1) := by decide +kernel
theorem dX7_clashes_93 : decode cX7_clashes 93 = .ok (.ifCond .eq 22, 3) := by decide +kernel
theorem dX7_clashes_96 : decode cX7_clashes 96 = .ok (.aload_n 0, 1) := by decide +kernel
theorem dX7_clashes_97 : decode cX7_clashes 97 = .ok (.iload_n 2, 1) := by decide +kernel
theorem dX7_clashes_98 : decode cX7_clashes 98 = .ok (.iconst 1, 1) := by decide +kernel
theorem dX7_clashes_99 : decode cX7_clashes 99 = .ok (.invokevirtual 108, 3) := by decide +kernel
theorem dX7_clashes_102 : decode cX7_clashes 102 = .ok (.aload_n 0, 1) := by decide +kernel
theorem dX7_clashes_103 : decode cX7_clashes 103 = .ok (.iload_n 1, 1) := by decide +kernel
theorem dX7_clashes_104 : decode cX7_clashes 104 = .ok (.iconst 1, 1) := by decide +kernel
theorem dX7_clashes_105 : decode cX7_clashes 105 = .ok (.invokevirtual 108, 3) := by decide +kernel
theorem dX7_clashes_108 : decode cX7_clashes 108 = .ok (.if_icmp .eq 7, 3) := by decide +kernel
theorem dX7_clashes_111 : decode cX7_clashes 111 = .ok (.iconst 1, 1) := by decide +kernel
theorem dX7_clashes_112 : decode cX7_clashes 112 = .ok (.goto 4, 3) := by decide +kernel
theorem dX7_clashes_115 : decode cX7_clashes 115 = .ok (.iconst 0, 1) := by decide +kernel
theorem dX7_clashes_116 : decode cX7_clashes 116 = .ok (.ireturn, 1) := by decide +kernel
theorem dX7_clashes_117 : decode cX7_clashes 117 = .ok (.iload 4, 2) := by decide +kernel
theorem dX7_clashes_119 : decode cX7_clashes 119 = .ok (.ireturn, 1) := by decide +kernel
theorem dX7_clashes_120 : decode cX7_clashes 120 = .ok (.iconst 0, 1) := by decide +kernel
theorem dX7_clashes_121 : decode cX7_clashes 121 = .ok (.ireturn, 1) := by decide +kernel
theorem dX7_clashes_122 : decode cX7_clashes 122 = .ok (.aload_n 0, 1) := by decide +kernel
theorem dX7_clashes_123 : decode cX7_clashes 123 = .ok (.getfield 7, 3) := by decide +kernel
theorem dX7_clashes_126 : decode cX7_clashes 126 = .ok (.bipush 41, 2) := by decide +kernel
theorem dX7_clashes_128 : decode cX7_clashes 128 = .ok (.iaload, 1) := by decide +kernel
theorem dX7_clashes_129 : decode cX7_clashes 129 = .ok (.iconst 3, 1) := by decide +kernel
theorem dX7_clashes_130 : decode cX7_clashes 130 = .ok (.irem, 1) := by decide +kernel
theorem dX7_clashes_131 : decode cX7_clashes 131 = .ok (.ifCond .eq 12, 3) := by decide +kernel
theorem dX7_clashes_134 : decode cX7_clashes 134 = .ok (.iload 4, 2) := by decide +kernel
theorem dX7_clashes_136 : decode cX7_clashes 136 = .ok (.ifCond .eq 7, 3) := by decide +kernel
theorem dX7_clashes_139 : decode cX7_clashes 139 = .ok (.iconst 1, 1) := by decide +kernel
theorem dX7_clashes_140 : decode cX7_clashes 140 = .ok (.goto 4, 3) := by decide +kernel
theorem dX7_clashes_143 : decode cX7_clashes 143 = .ok (.iconst 0, 1) := by decide +kernel
theorem dX7_clashes_144 : decode cX7_clashes 144 = .ok (.ireturn, 1) := by decide +kernel
theorem dX7_clashes_145 : decode cX7_clashes 145 = .ok (.aload_n 0, 1) := by decide +kernel
theorem dX7_clashes_146 : decode cX7_clashes 146 = .ok (.iload_n 2, 1) := by decide +kernel
theorem dX7_clashes_147 : decode cX7_clashes 147 = .ok (.iconst 0, 1) := by decide +kernel
theorem dX7_clashes_148 : decode cX7_clashes 148 = .ok (.invokevirtual 108, 3) := by decide +kernel
theorem dX7_clashes_151 : decode cX7_clashes 151 = .ok (.iconst 5, 1) := by decide +kernel
theorem dX7_clashes_152 : decode cX7_clashes 152 = .ok (.if_icmp .eq 7, 3) := by decide +kernel
theorem dX7_clashes_155 : decode cX7_clashes 155 = .ok (.iconst 1, 1) := by decide +kernel
theorem dX7_clashes_156 : decode cX7_clashes 156 = .ok (.goto 4, 3) := by decide +kernel
theorem dX7_clashes_159 : decode cX7_clashes 159 = .ok (.iconst 0, 1) := by decide +kernel
theorem dX7_clashes_160 : decode cX7_clashes 160 = .ok (.ireturn, 1) := by decide +kernel
theorem dX7_clashes_161 : decode cX7_clashes 161 = .ok (.iload_n 3, 1) := by decide +kernel
theorem dX7_clashes_162 : decode cX7_clashes 162 = .ok (.ifCond .eq 22, 3) := by decide +kernel
theorem dX7_clashes_165 : decode cX7_clashes 165 = .ok (.aload_n 0, 1) := by decide +kernel
theorem dX7_clashes_166 : decode cX7_clashes 166 = .ok (.iload_n 1, 1) := by decide +kernel
theorem dX7_clashes_167 : decode cX7_clashes 167 = .ok (.iconst 4, 1) := by decide +kernel
theorem dX7_clashes_168 : decode cX7_clashes 168 = .ok (.invokevirtual 108, 3) := by decide +kernel
theorem dX7_clashes_171 : decode cX7_clashes 171 = .ok (.aload_n 0, 1) := by decide +kernel
theorem dX7_clashes_172 : decode cX7_clashes 172 = .ok (.iload_n 2, 1) := by decide +kernel
theorem dX7_clashes_173 : decode cX7_clashes 173 = .ok (.iconst 4, 1) := by decide +kernel
theorem dX7_clashes_174 : decode cX7_clashes 174 = .ok (.invokevirtual 108, 3) := by decide +kernel
theorem dX7_clashes_177 : decode cX7_clashes 177 = .ok (.if_icmp .eq 7, 3) := by decide +kernel
theorem dX7_clashes_180 : decode cX7_clashes 180 = .ok (.iconst 1, 1) := by decide +kernel
theorem dX7_clashes_181 : decode cX7_clashes 181 = .ok (.goto 4, 3) := by decide +kernel
theorem dX7_clashes_184 : decode cX7_clashes 184 = .ok (.iconst 0, 1) := by decide +kernel
theorem dX7_clashes_185 : decode cX7_clashes 185 = .ok (.ireturn, 1) := by decide +kernel
theorem dX7_goTide_0 : decode cX7_goTide 0 = .ok (.iconst 0, 1) := by decide +kernel
theorem dX7_goTide_1 : decode cX7_goTide 1 = .ok (.istore_n 1, 1) := by decide +kernel
theorem dX7_goTide_2 : decode cX7_goTide 2 = .ok (.iload_n 1, 1) := by decide +kernel
theorem dX7_goTide_3 : decode cX7_goTide 3 = .ok (.aload_n 0, 1) := by decide +kernel
theorem dX7_goTide_4 : decode cX7_goTide 4 = .ok (.invokevirtual 101, 3) := by decide +kernel
theorem dX7_goTide_7 : decode cX7_goTide 7 = .ok (.if_icmp .ge 31, 3) := by decide +kernel
theorem dX7_goTide_10 : decode cX7_goTide 10 = .ok (.aload_n 0, 1) := by decide +kernel
theorem dX7_goTide_11 : decode cX7_goTide 11 = .ok (.getfield 46, 3) := by decide +kernel
theorem dX7_goTide_14 : decode cX7_goTide 14 = .ok (.iload_n 1, 1) := by decide +kernel
theorem dX7_goTide_15 : decode cX7_goTide 15 = .ok (.aload_n 0, 1) := by decide +kernel
theorem dX7_goTide_16 : decode cX7_goTide 16 = .ok (.iload_n 1, 1) := by decide +kernel
theorem dX7_goTide_17 : decode cX7_goTide 17 = .ok (.invokevirtual 118, 3) := by decide +kernel
theorem dX7_goTide_20 : decode cX7_goTide 20 = .ok (.iastore, 1) := by decide +kernel
theorem dX7_goTide_21 : decode cX7_goTide 21 = .ok (.aload_n 0, 1) := by decide +kernel
theorem dX7_goTide_22 : decode cX7_goTide 22 = .ok (.getfield 49, 3) := by decide +kernel
theorem dX7_goTide_25 : decode cX7_goTide 25 = .ok (.iload_n 1, 1) := by decide +kernel
theorem dX7_goTide_26 : decode cX7_goTide 26 = .ok (.aload_n 0, 1) := by decide +kernel
theorem dX7_goTide_27 : decode cX7_goTide 27 = .ok (.iload_n 1, 1) := by decide +kernel
theorem dX7_goTide_28 : decode cX7_goTide 28 = .ok (.invokevirtual 124, 3) := by decide +kernel
theorem dX7_goTide_31 : decode cX7_goTide 31 = .ok (.iastore, 1) := by decide +kernel
theorem dX7_goTide_32 : decode cX7_goTide 32 = .ok (.iinc 1 1, 3) := by decide +kernel
theorem dX7_goTide_35 : decode cX7_goTide 35 = .ok (.goto (-33), 3) := by decide +kernel
theorem dX7_goTide_38 : decode cX7_goTide 38 = .ok (.iconst 0, 1) := by decide +kernel
theorem dX7_goTide_39 : decode cX7_goTide 39 = .ok (.istore_n 1, 1) := by decide +kernel
theorem dX7_goTide_40 : decode cX7_goTide 40 = .ok (.iload_n 1, 1) := by decide +kernel
theorem dX7_goTide_41 : decode cX7_goTide 41 = .ok (.aload_n 0, 1) := by decide +kernel
theorem dX7_goTide_42 : decode cX7_goTide 42 = .ok (.invokevirtual 101, 3) := by decide +kernel
theorem dX7_goTide_45 : decode cX7_goTide 45 = .ok (.if_icmp .ge 56, 3) := by decide +kernel
theorem dX7_goTide_48 : decode cX7_goTide 48 = .ok (.aload_n 0, 1) := by decide +kernel
theorem dX7_goTide_49 : decode cX7_goTide 49 = .ok (.iload_n 1, 1) := by decide +kernel
theorem dX7_goTide_50 : decode cX7_goTide 50 = .ok (.iconst 2, 1) := by decide +kernel
theorem dX7_goTide_51 : decode cX7_goTide 51 = .ok (.iconst 0, 1) := by decide +kernel
theorem dX7_goTide_52 : decode cX7_goTide 52 = .ok (.aload_n 0, 1) := by decide +kernel
theorem dX7_goTide_53 : decode cX7_goTide 53 = .ok (.iload_n 1, 1) := by decide +kernel
theorem dX7_goTide_54 : decode cX7_goTide 54 = .ok (.iconst 2, 1) := by decide +kernel
theorem dX7_goTide_55 : decode cX7_goTide 55 = .ok (.invokevirtual 108, 3) := by decide +kernel
theorem dX7_goTide_58 : decode cX7_goTide 58 = .ok (.aload_n 0, 1) := by decide +kernel
theorem dX7_goTide_59 : decode cX7_goTide 59 = .ok (.getfield 46, 3) := by decide +kernel
theorem dX7_goTide_62 : decode cX7_goTide 62 = .ok (.iload_n 1, 1) := by decide +kernel
theorem dX7_goTide_63 : decode cX7_goTide 63 = .ok (.iaload, 1) := by decide +kernel
theorem dX7_goTide_64 : decode cX7_goTide 64 = .ok (.isub, 1) := by decide +kernel
theorem dX7_goTide_65 : decode cX7_goTide 65 = .ok (.invokestatic 83, 3) := by decide +kernel
theorem dX7_goTide_68 : decode cX7_goTide 68 = .ok (.invokevirtual 104, 3) := by decide +kernel
theorem dX7_goTide_71 : decode cX7_goTide 71 = .ok (.aload_n 0, 1) := by decide +kernel
theorem dX7_goTide_72 : decode cX7_goTide 72 = .ok (.iload_n 1, 1) := by decide +kernel
theorem dX7_goTide_73 : decode cX7_goTide 73 = .ok (.iconst 3, 1) := by decide +kernel
theorem dX7_goTide_74 : decode cX7_goTide 74 = .ok (.aload_n 0, 1) := by decide +kernel
theorem dX7_goTide_75 : decode cX7_goTide 75 = .ok (.iload_n 1, 1) := by decide +kernel
theorem dX7_goTide_76 : decode cX7_goTide 76 = .ok (.iconst 3, 1) := by decide +kernel
theorem dX7_goTide_77 : decode cX7_goTide 77 = .ok (.invokevirtual 108, 3) := by decide +kernel
theorem dX7_goTide_80 : decode cX7_goTide 80 = .ok (.aload_n 0, 1) := by decide +kernel
theorem dX7_goTide_81 : decode cX7_goTide 81 = .ok (.getfield 49, 3) := by decide +kernel
theorem dX7_goTide_84 : decode cX7_goTide 84 = .ok (.iload_n 1, 1) := by decide +kernel
theorem dX7_goTide_85 : decode cX7_goTide 85 = .ok (.iaload, 1) := by decide +kernel
theorem dX7_goTide_86 : decode cX7_goTide 86 = .ok (.iadd, 1) := by decide +kernel
theorem dX7_goTide_87 : decode cX7_goTide 87 = .ok (.bipush 12, 2) := by decide +kernel
theorem dX7_goTide_89 : decode cX7_goTide 89 = .ok (.invokestatic 214, 3) := by decide +kernel
theorem dX7_goTide_92 : decode cX7_goTide 92 = .ok (.invokevirtual 104, 3) := by decide +kernel
theorem dX7_goTide_95 : decode cX7_goTide 95 = .ok (.iinc 1 1, 3) := by decide +kernel
theorem dX7_goTide_98 : decode cX7_goTide 98 = .ok (.goto (-58), 3) := by decide +kernel
theorem dX7_goTide_101 : decode cX7_goTide 101 = .ok (.aload_n 0, 1) := by decide +kernel
theorem dX7_goTide_102 : decode cX7_goTide 102 = .ok (.getfield 7, 3) := by decide +kernel
theorem dX7_goTide_105 : decode cX7_goTide 105 = .ok (.bipush 41, 2) := by decide +kernel
theorem dX7_goTide_107 : decode cX7_goTide 107 = .ok (.dup2, 1) := by decide +kernel
theorem dX7_goTide_108 : decode cX7_goTide 108 = .ok (.iaload, 1) := by decide +kernel
theorem dX7_goTide_109 : decode cX7_goTide 109 = .ok (.iconst 1, 1) := by decide +kernel
theorem dX7_goTide_110 : decode cX7_goTide 110 = .ok (.iadd, 1) := by decide +kernel
theorem dX7_goTide_111 : decode cX7_goTide 111 = .ok (.iastore, 1) := by decide +kernel
theorem dX7_goTide_112 : decode cX7_goTide 112 = .ok (.return_, 1) := by decide +kernel
theorem dX7_rounds_0 : decode cX7_rounds 0 = .ok (.iconst 0, 1) := by decide +kernel
theorem dX7_rounds_1 : decode cX7_rounds 1 = .ok (.istore_n 1, 1) := by decide +kernel
theorem dX7_rounds_2 : decode cX7_rounds 2 = .ok (.iconst 0, 1) := by decide +kernel
theorem dX7_rounds_3 : decode cX7_rounds 3 = .ok (.istore_n 2, 1) := by decide +kernel
theorem dX7_rounds_4 : decode cX7_rounds 4 = .ok (.iload_n 2, 1) := by decide +kernel
theorem dX7_rounds_5 : decode cX7_rounds 5 = .ok (.aload_n 0, 1) := by decide +kernel
theorem dX7_rounds_6 : decode cX7_rounds 6 = .ok (.invokevirtual 101, 3) := by decide +kernel
theorem dX7_rounds_9 : decode cX7_rounds 9 = .ok (.if_icmp .ge 26, 3) := by decide +kernel
theorem dX7_rounds_12 : decode cX7_rounds 12 = .ok (.iload_n 1, 1) := by decide +kernel
theorem dX7_rounds_13 : decode cX7_rounds 13 = .ok (.aload_n 0, 1) := by decide +kernel
theorem dX7_rounds_14 : decode cX7_rounds 14 = .ok (.iload_n 2, 1) := by decide +kernel
theorem dX7_rounds_15 : decode cX7_rounds 15 = .ok (.iconst 2, 1) := by decide +kernel
theorem dX7_rounds_16 : decode cX7_rounds 16 = .ok (.invokevirtual 108, 3) := by decide +kernel
theorem dX7_rounds_19 : decode cX7_rounds 19 = .ok (.ifCond .ne 7, 3) := by decide +kernel
theorem dX7_rounds_22 : decode cX7_rounds 22 = .ok (.iconst 1, 1) := by decide +kernel
theorem dX7_rounds_23 : decode cX7_rounds 23 = .ok (.goto 4, 3) := by decide +kernel
theorem dX7_rounds_26 : decode cX7_rounds 26 = .ok (.iconst 0, 1) := by decide +kernel
theorem dX7_rounds_27 : decode cX7_rounds 27 = .ok (.iadd, 1) := by decide +kernel
theorem dX7_rounds_28 : decode cX7_rounds 28 = .ok (.istore_n 1, 1) := by decide +kernel
theorem dX7_rounds_29 : decode cX7_rounds 29 = .ok (.iinc 2 1, 3) := by decide +kernel
theorem dX7_rounds_32 : decode cX7_rounds 32 = .ok (.goto (-28), 3) := by decide +kernel
theorem dX7_rounds_35 : decode cX7_rounds 35 = .ok (.iload_n 1, 1) := by decide +kernel
theorem dX7_rounds_36 : decode cX7_rounds 36 = .ok (.ireturn, 1) := by decide +kernel
theorem dX7_sharps_0 : decode cX7_sharps 0 = .ok (.iconst 0, 1) := by decide +kernel
theorem dX7_sharps_1 : decode cX7_sharps 1 = .ok (.istore_n 1, 1) := by decide +kernel
theorem dX7_sharps_2 : decode cX7_sharps 2 = .ok (.iconst 0, 1) := by decide +kernel
theorem dX7_sharps_3 : decode cX7_sharps 3 = .ok (.istore_n 2, 1) := by decide +kernel
theorem dX7_sharps_4 : decode cX7_sharps 4 = .ok (.iload_n 2, 1) := by decide +kernel
theorem dX7_sharps_5 : decode cX7_sharps 5 = .ok (.aload_n 0, 1) := by decide +kernel
theorem dX7_sharps_6 : decode cX7_sharps 6 = .ok (.invokevirtual 101, 3) := by decide +kernel
theorem dX7_sharps_9 : decode cX7_sharps 9 = .ok (.if_icmp .ge 18, 3) := by decide +kernel
theorem dX7_sharps_12 : decode cX7_sharps 12 = .ok (.iload_n 1, 1) := by decide +kernel
theorem dX7_sharps_13 : decode cX7_sharps 13 = .ok (.aload_n 0, 1) := by decide +kernel
theorem dX7_sharps_14 : decode cX7_sharps 14 = .ok (.iload_n 2, 1) := by decide +kernel
theorem dX7_sharps_15 : decode cX7_sharps 15 = .ok (.iconst 2, 1) := by decide +kernel
theorem dX7_sharps_16 : decode cX7_sharps 16 = .ok (.invokevirtual 108, 3) := by decide +kernel
theorem dX7_sharps_19 : decode cX7_sharps 19 = .ok (.iadd, 1) := by decide +kernel
theorem dX7_sharps_20 : decode cX7_sharps 20 = .ok (.istore_n 1, 1) := by decide +kernel
theorem dX7_sharps_21 : decode cX7_sharps 21 = .ok (.iinc 2 1, 3) := by decide +kernel
theorem dX7_sharps_24 : decode cX7_sharps 24 = .ok (.goto (-20), 3) := by decide +kernel
theorem dX7_sharps_27 : decode cX7_sharps 27 = .ok (.iload_n 1, 1) := by decide +kernel
theorem dX7_sharps_28 : decode cX7_sharps 28 = .ok (.ireturn, 1) := by decide +kernel
theorem dX7_places_0 : decode cX7_places 0 = .ok (.iconst 0, 1) := by decide +kernel
theorem dX7_places_1 : decode cX7_places 1 = .ok (.istore_n 1, 1) := by decide +kernel
theorem dX7_places_2 : decode cX7_places 2 = .ok (.iconst 0, 1) := by decide +kernel
theorem dX7_places_3 : decode cX7_places 3 = .ok (.istore_n 2, 1) := by decide +kernel
theorem dX7_places_4 : decode cX7_places 4 = .ok (.iload_n 2, 1) := by decide +kernel
theorem dX7_places_5 : decode cX7_places 5 = .ok (.bipush 12, 2) := by decide +kernel
theorem dX7_places_7 : decode cX7_places 7 = .ok (.if_icmp .ge 25, 3) := by decide +kernel
theorem dX7_places_10 : decode cX7_places 10 = .ok (.iload_n 1, 1) := by decide +kernel
theorem dX7_places_11 : decode cX7_places 11 = .ok (.aload_n 0, 1) := by decide +kernel
theorem dX7_places_12 : decode cX7_places 12 = .ok (.iload_n 2, 1) := by decide +kernel
theorem dX7_places_13 : decode cX7_places 13 = .ok (.invokevirtual 115, 3) := by decide +kernel
theorem dX7_places_16 : decode cX7_places 16 = .ok (.ifCond .eq 7, 3) := by decide +kernel
theorem dX7_places_19 : decode cX7_places 19 = .ok (.iconst 1, 1) := by decide +kernel
theorem dX7_places_20 : decode cX7_places 20 = .ok (.goto 4, 3) := by decide +kernel
theorem dX7_places_23 : decode cX7_places 23 = .ok (.iconst 0, 1) := by decide +kernel
theorem dX7_places_24 : decode cX7_places 24 = .ok (.iadd, 1) := by decide +kernel
theorem dX7_places_25 : decode cX7_places 25 = .ok (.istore_n 1, 1) := by decide +kernel
theorem dX7_places_26 : decode cX7_places 26 = .ok (.iinc 2 1, 3) := by decide +kernel
theorem dX7_places_29 : decode cX7_places 29 = .ok (.goto (-25), 3) := by decide +kernel
theorem dX7_places_32 : decode cX7_places 32 = .ok (.iload_n 1, 1) := by decide +kernel
theorem dX7_places_33 : decode cX7_places 33 = .ok (.ireturn, 1) := by decide +kernel
theorem dX7_tide_0 : decode cX7_tide 0 = .ok (.aload_n 0, 1) := by decide +kernel
theorem dX7_tide_1 : decode cX7_tide 1 = .ok (.getfield 7, 3) := by decide +kernel
theorem dX7_tide_4 : decode cX7_tide 4 = .ok (.bipush 41, 2) := by decide +kernel
theorem dX7_tide_6 : decode cX7_tide 6 = .ok (.iaload, 1) := by decide +kernel
theorem dX7_tide_7 : decode cX7_tide 7 = .ok (.sipush 999, 3) := by decide +kernel
theorem dX7_tide_10 : decode cX7_tide 10 = .ok (.if_icmp .ne 6, 3) := by decide +kernel
theorem dX7_tide_13 : decode cX7_tide 13 = .ok (.bipush (-3), 2) := by decide +kernel
theorem dX7_tide_15 : decode cX7_tide 15 = .ok (.ireturn, 1) := by decide +kernel
theorem dX7_tide_16 : decode cX7_tide 16 = .ok (.aload_n 0, 1) := by decide +kernel
theorem dX7_tide_17 : decode cX7_tide 17 = .ok (.invokevirtual 217, 3) := by decide +kernel
theorem dX7_tide_20 : decode cX7_tide 20 = .ok (.aload_n 0, 1) := by decide +kernel
theorem dX7_tide_21 : decode cX7_tide 21 = .ok (.invokevirtual 220, 3) := by decide +kernel
theorem dX7_tide_24 : decode cX7_tide 24 = .ok (.ireturn, 1) := by decide +kernel
theorem dX7_run_0 : decode cX7_run 0 = .ok (.aload_n 0, 1) := by decide +kernel
theorem dX7_run_1 : decode cX7_run 1 = .ok (.iload_n 1, 1) := by decide +kernel
theorem dX7_run_2 : decode cX7_run 2 = .ok (.invokevirtual 94, 3) := by decide +kernel
theorem dX7_run_5 : decode cX7_run 5 = .ok (.ifCond .eq 22, 3) := by decide +kernel
theorem dX7_run_8 : decode cX7_run 8 = .ok (.iload_n 2, 1) := by decide +kernel
theorem dX7_run_9 : decode cX7_run 9 = .ok (.iconst 0, 1) := by decide +kernel
theorem dX7_run_10 : decode cX7_run 10 = .ok (.bipush 60, 2) := by decide +kernel
theorem dX7_run_12 : decode cX7_run 12 = .ok (.invokestatic 86, 3) := by decide +kernel
theorem dX7_run_15 : decode cX7_run 15 = .ok (.ifCond .eq 12, 3) := by decide +kernel
theorem dX7_run_18 : decode cX7_run 18 = .ok (.iload_n 3, 1) := by decide +kernel
theorem dX7_run_19 : decode cX7_run 19 = .ok (.iconst 0, 1) := by decide +kernel
theorem dX7_run_20 : decode cX7_run 20 = .ok (.iconst 4, 1) := by decide +kernel
theorem dX7_run_21 : decode cX7_run 21 = .ok (.invokestatic 86, 3) := by decide +kernel
theorem dX7_run_24 : decode cX7_run 24 = .ok (.ifCond .ne 6, 3) := by decide +kernel
theorem dX7_run_27 : decode cX7_run 27 = .ok (.bipush (-2), 2) := by decide +kernel
theorem dX7_run_29 : decode cX7_run 29 = .ok (.ireturn, 1) := by decide +kernel
theorem dX7_run_30 : decode cX7_run 30 = .ok (.aload_n 0, 1) := by decide +kernel
theorem dX7_run_31 : decode cX7_run 31 = .ok (.aload_n 0, 1) := by decide +kernel
theorem dX7_run_32 : decode cX7_run 32 = .ok (.getfield 16, 3) := by decide +kernel
theorem dX7_run_35 : decode cX7_run 35 = .ok (.invokevirtual 223, 3) := by decide +kernel
theorem dX7_run_38 : decode cX7_run 38 = .ok (.iconst 0, 1) := by decide +kernel
theorem dX7_run_39 : decode cX7_run 39 = .ok (.istore 4, 2) := by decide +kernel
theorem dX7_run_41 : decode cX7_run 41 = .ok (.iload 4, 2) := by decide +kernel
theorem dX7_run_43 : decode cX7_run 43 = .ok (.iload_n 2, 1) := by decide +kernel
theorem dX7_run_44 : decode cX7_run 44 = .ok (.if_icmp .ge 13, 3) := by decide +kernel
theorem dX7_run_47 : decode cX7_run 47 = .ok (.aload_n 0, 1) := by decide +kernel
theorem dX7_run_48 : decode cX7_run 48 = .ok (.invokevirtual 217, 3) := by decide +kernel
theorem dX7_run_51 : decode cX7_run 51 = .ok (.iinc 4 1, 3) := by decide +kernel
theorem dX7_run_54 : decode cX7_run 54 = .ok (.goto (-13), 3) := by decide +kernel
theorem dX7_run_57 : decode cX7_run 57 = .ok (.iload_n 3, 1) := by decide +kernel
theorem dX7_run_58 : decode cX7_run 58 = .ok (.ifCond .ne 12, 3) := by decide +kernel
theorem dX7_run_61 : decode cX7_run 61 = .ok (.aload_n 0, 1) := by decide +kernel
theorem dX7_run_62 : decode cX7_run 62 = .ok (.iload_n 1, 1) := by decide +kernel
theorem dX7_run_63 : decode cX7_run 63 = .ok (.iconst 2, 1) := by decide +kernel
theorem dX7_run_64 : decode cX7_run 64 = .ok (.invokevirtual 108, 3) := by decide +kernel
theorem dX7_run_67 : decode cX7_run 67 = .ok (.goto 45, 3) := by decide +kernel
theorem dX7_run_70 : decode cX7_run 70 = .ok (.iload_n 3, 1) := by decide +kernel
theorem dX7_run_71 : decode cX7_run 71 = .ok (.iconst 1, 1) := by decide +kernel
theorem dX7_run_72 : decode cX7_run 72 = .ok (.if_icmp .ne 12, 3) := by decide +kernel
theorem dX7_run_75 : decode cX7_run 75 = .ok (.aload_n 0, 1) := by decide +kernel
theorem dX7_run_76 : decode cX7_run 76 = .ok (.iload_n 1, 1) := by decide +kernel
theorem dX7_run_77 : decode cX7_run 77 = .ok (.iconst 3, 1) := by decide +kernel
theorem dX7_run_78 : decode cX7_run 78 = .ok (.invokevirtual 108, 3) := by decide +kernel
theorem dX7_run_81 : decode cX7_run 81 = .ok (.goto 31, 3) := by decide +kernel
theorem dX7_run_84 : decode cX7_run 84 = .ok (.iload_n 3, 1) := by decide +kernel
theorem dX7_run_85 : decode cX7_run 85 = .ok (.iconst 2, 1) := by decide +kernel
theorem dX7_run_86 : decode cX7_run 86 = .ok (.if_icmp .ne 10, 3) := by decide +kernel
theorem dX7_run_89 : decode cX7_run 89 = .ok (.aload_n 0, 1) := by decide +kernel
theorem dX7_run_90 : decode cX7_run 90 = .ok (.invokevirtual 227, 3) := by decide +kernel
theorem dX7_run_93 : decode cX7_run 93 = .ok (.goto 19, 3) := by decide +kernel
theorem dX7_run_96 : decode cX7_run 96 = .ok (.iload_n 3, 1) := by decide +kernel
theorem dX7_run_97 : decode cX7_run 97 = .ok (.iconst 3, 1) := by decide +kernel
theorem dX7_run_98 : decode cX7_run 98 = .ok (.if_icmp .ne 10, 3) := by decide +kernel
theorem dX7_run_101 : decode cX7_run 101 = .ok (.aload_n 0, 1) := by decide +kernel
theorem dX7_run_102 : decode cX7_run 102 = .ok (.invokevirtual 220, 3) := by decide +kernel
theorem dX7_run_105 : decode cX7_run 105 = .ok (.goto 7, 3) := by decide +kernel
theorem dX7_run_108 : decode cX7_run 108 = .ok (.aload_n 0, 1) := by decide +kernel
theorem dX7_run_109 : decode cX7_run 109 = .ok (.invokevirtual 230, 3) := by decide +kernel
theorem dX7_run_112 : decode cX7_run 112 = .ok (.istore 4, 2) := by decide +kernel
theorem dX7_run_114 : decode cX7_run 114 = .ok (.aload_n 0, 1) := by decide +kernel
theorem dX7_run_115 : decode cX7_run 115 = .ok (.aload_n 0, 1) := by decide +kernel
theorem dX7_run_116 : decode cX7_run 116 = .ok (.getfield 16, 3) := by decide +kernel
theorem dX7_run_119 : decode cX7_run 119 = .ok (.invokevirtual 233, 3) := by decide +kernel
theorem dX7_run_122 : decode cX7_run 122 = .ok (.iload 4, 2) := by decide +kernel
theorem dX7_run_124 : decode cX7_run 124 = .ok (.ireturn, 1) := by decide +kernel
theorem dX7_when_0 : decode cX7_when 0 = .ok (.aload_n 0, 1) := by decide +kernel
theorem dX7_when_1 : decode cX7_when 1 = .ok (.aload_n 0, 1) := by decide +kernel
theorem dX7_when_2 : decode cX7_when 2 = .ok (.getfield 16, 3) := by decide +kernel
theorem dX7_when_5 : decode cX7_when 5 = .ok (.invokevirtual 223, 3) := by decide +kernel
theorem dX7_when_8 : decode cX7_when 8 = .ok (.iconst 0, 1) := by decide +kernel
theorem dX7_when_9 : decode cX7_when 9 = .ok (.istore_n 1, 1) := by decide +kernel
theorem dX7_when_10 : decode cX7_when 10 = .ok (.iload_n 1, 1) := by decide +kernel
theorem dX7_when_11 : decode cX7_when 11 = .ok (.bipush 60, 2) := by decide +kernel
theorem dX7_when_13 : decode cX7_when 13 = .ok (.if_icmp .gt 24, 3) := by decide +kernel
theorem dX7_when_16 : decode cX7_when 16 = .ok (.aload_n 0, 1) := by decide +kernel
theorem dX7_when_17 : decode cX7_when 17 = .ok (.invokevirtual 220, 3) := by decide +kernel
theorem dX7_when_20 : decode cX7_when 20 = .ok (.aload_n 0, 1) := by decide +kernel
theorem dX7_when_21 : decode cX7_when 21 = .ok (.invokevirtual 101, 3) := by decide +kernel
theorem dX7_when_24 : decode cX7_when 24 = .ok (.if_icmp .ge 13, 3) := by decide +kernel
theorem dX7_when_27 : decode cX7_when 27 = .ok (.aload_n 0, 1) := by decide +kernel
theorem dX7_when_28 : decode cX7_when 28 = .ok (.invokevirtual 217, 3) := by decide +kernel
theorem dX7_when_31 : decode cX7_when 31 = .ok (.iinc 1 1, 3) := by decide +kernel
theorem dX7_when_34 : decode cX7_when 34 = .ok (.goto (-24), 3) := by decide +kernel
theorem dX7_when_37 : decode cX7_when 37 = .ok (.aload_n 0, 1) := by decide +kernel
theorem dX7_when_38 : decode cX7_when 38 = .ok (.aload_n 0, 1) := by decide +kernel
theorem dX7_when_39 : decode cX7_when 39 = .ok (.getfield 16, 3) := by decide +kernel
theorem dX7_when_42 : decode cX7_when 42 = .ok (.invokevirtual 233, 3) := by decide +kernel
theorem dX7_when_45 : decode cX7_when 45 = .ok (.iload_n 1, 1) := by decide +kernel
theorem dX7_when_46 : decode cX7_when 46 = .ok (.bipush 60, 2) := by decide +kernel
theorem dX7_when_48 : decode cX7_when 48 = .ok (.if_icmp .gt 7, 3) := by decide +kernel
theorem dX7_when_51 : decode cX7_when 51 = .ok (.iload_n 1, 1) := by decide +kernel
theorem dX7_when_52 : decode cX7_when 52 = .ok (.goto 4, 3) := by decide +kernel
theorem dX7_when_55 : decode cX7_when 55 = .ok (.iconst (-1), 1) := by decide +kernel
theorem dX7_when_56 : decode cX7_when 56 = .ok (.ireturn, 1) := by decide +kernel
theorem dX7_farOut_0 : decode cX7_farOut 0 = .ok (.iconst (-1), 1) := by decide +kernel
theorem dX7_farOut_1 : decode cX7_farOut 1 = .ok (.istore_n 1, 1) := by decide +kernel
theorem dX7_farOut_2 : decode cX7_farOut 2 = .ok (.iconst (-1), 1) := by decide +kernel
theorem dX7_farOut_3 : decode cX7_farOut 3 = .ok (.istore_n 2, 1) := by decide +kernel
theorem dX7_farOut_4 : decode cX7_farOut 4 = .ok (.iconst 0, 1) := by decide +kernel
theorem dX7_farOut_5 : decode cX7_farOut 5 = .ok (.istore_n 3, 1) := by decide +kernel
theorem dX7_farOut_6 : decode cX7_farOut 6 = .ok (.iload_n 3, 1) := by decide +kernel
theorem dX7_farOut_7 : decode cX7_farOut 7 = .ok (.aload_n 0, 1) := by decide +kernel
theorem dX7_farOut_8 : decode cX7_farOut 8 = .ok (.invokevirtual 101, 3) := by decide +kernel
theorem dX7_farOut_11 : decode cX7_farOut 11 = .ok (.if_icmp .ge 70, 3) := by decide +kernel
theorem dX7_farOut_14 : decode cX7_farOut 14 = .ok (.iconst 0, 1) := by decide +kernel
theorem dX7_farOut_15 : decode cX7_farOut 15 = .ok (.istore 4, 2) := by decide +kernel
theorem dX7_farOut_17 : decode cX7_farOut 17 = .ok (.iconst 0, 1) := by decide +kernel
theorem dX7_farOut_18 : decode cX7_farOut 18 = .ok (.istore 5, 2) := by decide +kernel
theorem dX7_farOut_20 : decode cX7_farOut 20 = .ok (.iload 5, 2) := by decide +kernel
theorem dX7_farOut_22 : decode cX7_farOut 22 = .ok (.aload_n 0, 1) := by decide +kernel
theorem dX7_farOut_23 : decode cX7_farOut 23 = .ok (.invokevirtual 101, 3) := by decide +kernel
theorem dX7_farOut_26 : decode cX7_farOut 26 = .ok (.if_icmp .ge 30, 3) := by decide +kernel
theorem dX7_farOut_29 : decode cX7_farOut 29 = .ok (.iload 4, 2) := by decide +kernel
theorem dX7_farOut_31 : decode cX7_farOut 31 = .ok (.aload_n 0, 1) := by decide +kernel
theorem dX7_farOut_32 : decode cX7_farOut 32 = .ok (.iload_n 3, 1) := by decide +kernel
theorem dX7_farOut_33 : decode cX7_farOut 33 = .ok (.iconst 3, 1) := by decide +kernel
theorem dX7_farOut_34 : decode cX7_farOut 34 = .ok (.invokevirtual 108, 3) := by decide +kernel
theorem dX7_farOut_37 : decode cX7_farOut 37 = .ok (.aload_n 0, 1) := by decide +kernel
theorem dX7_farOut_38 : decode cX7_farOut 38 = .ok (.iload 5, 2) := by decide +kernel
theorem dX7_farOut_40 : decode cX7_farOut 40 = .ok (.iconst 3, 1) := by decide +kernel
theorem dX7_farOut_41 : decode cX7_farOut 41 = .ok (.invokevirtual 108, 3) := by decide +kernel
theorem dX7_farOut_44 : decode cX7_farOut 44 = .ok (.invokestatic 196, 3) := by decide +kernel
theorem dX7_farOut_47 : decode cX7_farOut 47 = .ok (.iadd, 1) := by decide +kernel
theorem dX7_farOut_48 : decode cX7_farOut 48 = .ok (.istore 4, 2) := by decide +kernel
theorem dX7_farOut_50 : decode cX7_farOut 50 = .ok (.iinc 5 1, 3) := by decide +kernel
theorem dX7_farOut_53 : decode cX7_farOut 53 = .ok (.goto (-33), 3) := by decide +kernel
theorem dX7_farOut_56 : decode cX7_farOut 56 = .ok (.iload 4, 2) := by decide +kernel
theorem dX7_farOut_58 : decode cX7_farOut 58 = .ok (.iload_n 2, 1) := by decide +kernel
theorem dX7_farOut_59 : decode cX7_farOut 59 = .ok (.if_icmp .le 7, 3) := by decide +kernel
theorem dX7_farOut_62 : decode cX7_farOut 62 = .ok (.iload_n 3, 1) := by decide +kernel
theorem dX7_farOut_63 : decode cX7_farOut 63 = .ok (.goto 4, 3) := by decide +kernel
theorem dX7_farOut_66 : decode cX7_farOut 66 = .ok (.iload_n 1, 1) := by decide +kernel
theorem dX7_farOut_67 : decode cX7_farOut 67 = .ok (.istore_n 1, 1) := by decide +kernel
theorem dX7_farOut_68 : decode cX7_farOut 68 = .ok (.iload 4, 2) := by decide +kernel
theorem dX7_farOut_70 : decode cX7_farOut 70 = .ok (.iload_n 2, 1) := by decide +kernel
theorem dX7_farOut_71 : decode cX7_farOut 71 = .ok (.invokestatic 83, 3) := by decide +kernel
theorem dX7_farOut_74 : decode cX7_farOut 74 = .ok (.istore_n 2, 1) := by decide +kernel
theorem dX7_farOut_75 : decode cX7_farOut 75 = .ok (.iinc 3 1, 3) := by decide +kernel
theorem dX7_farOut_78 : decode cX7_farOut 78 = .ok (.goto (-72), 3) := by decide +kernel
theorem dX7_farOut_81 : decode cX7_farOut 81 = .ok (.iload_n 1, 1) := by decide +kernel
theorem dX7_farOut_82 : decode cX7_farOut 82 = .ok (.ireturn, 1) := by decide +kernel
theorem dX7_all_0 : decode cX7_all 0 = .ok (.iload_n 1, 1) := by decide +kernel
theorem dX7_all_1 : decode cX7_all 1 = .ok (.tableswitch 51 0 3 #[31, 36, 41, 46], 31) := by decide +kernel
theorem dX7_all_32 : decode cX7_all 32 = .ok (.aload_n 0, 1) := by decide +kernel
theorem dX7_all_33 : decode cX7_all 33 = .ok (.invokevirtual 236, 3) := by decide +kernel
theorem dX7_all_36 : decode cX7_all 36 = .ok (.ireturn, 1) := by decide +kernel
theorem dX7_all_37 : decode cX7_all 37 = .ok (.aload_n 0, 1) := by decide +kernel
theorem dX7_all_38 : decode cX7_all 38 = .ok (.invokevirtual 220, 3) := by decide +kernel
theorem dX7_all_41 : decode cX7_all 41 = .ok (.ireturn, 1) := by decide +kernel
theorem dX7_all_42 : decode cX7_all 42 = .ok (.aload_n 0, 1) := by decide +kernel
theorem dX7_all_43 : decode cX7_all 43 = .ok (.invokevirtual 230, 3) := by decide +kernel
theorem dX7_all_46 : decode cX7_all 46 = .ok (.ireturn, 1) := by decide +kernel
theorem dX7_all_47 : decode cX7_all 47 = .ok (.aload_n 0, 1) := by decide +kernel
theorem dX7_all_48 : decode cX7_all 48 = .ok (.invokevirtual 239, 3) := by decide +kernel
theorem dX7_all_51 : decode cX7_all 51 = .ok (.ireturn, 1) := by decide +kernel
theorem dX7_all_52 : decode cX7_all 52 = .ok (.bipush (-2), 2) := by decide +kernel
theorem dX7_all_54 : decode cX7_all 54 = .ok (.ireturn, 1) := by decide +kernel
theorem dX7_isTwo_0 : decode cX7_isTwo 0 = .ok (.aload_n 0, 1) := by decide +kernel
theorem dX7_isTwo_1 : decode cX7_isTwo 1 = .ok (.iload_n 1, 1) := by decide +kernel
theorem dX7_isTwo_2 : decode cX7_isTwo 2 = .ok (.invokevirtual 94, 3) := by decide +kernel
theorem dX7_isTwo_5 : decode cX7_isTwo 5 = .ok (.ifCond .eq 20, 3) := by decide +kernel
theorem dX7_isTwo_8 : decode cX7_isTwo 8 = .ok (.aload_n 0, 1) := by decide +kernel
theorem dX7_isTwo_9 : decode cX7_isTwo 9 = .ok (.iload_n 2, 1) := by decide +kernel
theorem dX7_isTwo_10 : decode cX7_isTwo 10 = .ok (.invokevirtual 94, 3) := by decide +kernel
theorem dX7_isTwo_13 : decode cX7_isTwo 13 = .ok (.ifCond .eq 12, 3) := by decide +kernel
theorem dX7_isTwo_16 : decode cX7_isTwo 16 = .ok (.iload_n 1, 1) := by decide +kernel
theorem dX7_isTwo_17 : decode cX7_isTwo 17 = .ok (.iload_n 2, 1) := by decide +kernel
theorem dX7_isTwo_18 : decode cX7_isTwo 18 = .ok (.if_icmp .eq 7, 3) := by decide +kernel
theorem dX7_isTwo_21 : decode cX7_isTwo 21 = .ok (.iconst 1, 1) := by decide +kernel
theorem dX7_isTwo_22 : decode cX7_isTwo 22 = .ok (.goto 4, 3) := by decide +kernel
theorem dX7_isTwo_25 : decode cX7_isTwo 25 = .ok (.iconst 0, 1) := by decide +kernel
theorem dX7_isTwo_26 : decode cX7_isTwo 26 = .ok (.ireturn, 1) := by decide +kernel
theorem dX7_meet_0 : decode cX7_meet 0 = .ok (.aload_n 0, 1) := by decide +kernel
theorem dX7_meet_1 : decode cX7_meet 1 = .ok (.iload_n 1, 1) := by decide +kernel
theorem dX7_meet_2 : decode cX7_meet 2 = .ok (.iload_n 2, 1) := by decide +kernel
theorem dX7_meet_3 : decode cX7_meet 3 = .ok (.invokevirtual 242, 3) := by decide +kernel
theorem dX7_meet_6 : decode cX7_meet 6 = .ok (.ifCond .ne 6, 3) := by decide +kernel
theorem dX7_meet_9 : decode cX7_meet 9 = .ok (.bipush (-2), 2) := by decide +kernel
theorem dX7_meet_11 : decode cX7_meet 11 = .ok (.ireturn, 1) := by decide +kernel
theorem dX7_meet_12 : decode cX7_meet 12 = .ok (.aload_n 0, 1) := by decide +kernel
theorem dX7_meet_13 : decode cX7_meet 13 = .ok (.aload_n 0, 1) := by decide +kernel
theorem dX7_meet_14 : decode cX7_meet 14 = .ok (.getfield 16, 3) := by decide +kernel
theorem dX7_meet_17 : decode cX7_meet 17 = .ok (.invokevirtual 223, 3) := by decide +kernel
theorem dX7_meet_20 : decode cX7_meet 20 = .ok (.iconst 0, 1) := by decide +kernel
theorem dX7_meet_21 : decode cX7_meet 21 = .ok (.istore_n 3, 1) := by decide +kernel
theorem dX7_meet_22 : decode cX7_meet 22 = .ok (.iload_n 3, 1) := by decide +kernel
theorem dX7_meet_23 : decode cX7_meet 23 = .ok (.bipush 60, 2) := by decide +kernel
theorem dX7_meet_25 : decode cX7_meet 25 = .ok (.if_icmp .gt 28, 3) := by decide +kernel
theorem dX7_meet_28 : decode cX7_meet 28 = .ok (.aload_n 0, 1) := by decide +kernel
theorem dX7_meet_29 : decode cX7_meet 29 = .ok (.iload_n 1, 1) := by decide +kernel
theorem dX7_meet_30 : decode cX7_meet 30 = .ok (.iconst 3, 1) := by decide +kernel
theorem dX7_meet_31 : decode cX7_meet 31 = .ok (.invokevirtual 108, 3) := by decide +kernel
theorem dX7_meet_34 : decode cX7_meet 34 = .ok (.aload_n 0, 1) := by decide +kernel
theorem dX7_meet_35 : decode cX7_meet 35 = .ok (.iload_n 2, 1) := by decide +kernel
theorem dX7_meet_36 : decode cX7_meet 36 = .ok (.iconst 3, 1) := by decide +kernel
theorem dX7_meet_37 : decode cX7_meet 37 = .ok (.invokevirtual 108, 3) := by decide +kernel
theorem dX7_meet_40 : decode cX7_meet 40 = .ok (.if_icmp .eq 13, 3) := by decide +kernel
theorem dX7_meet_43 : decode cX7_meet 43 = .ok (.aload_n 0, 1) := by decide +kernel
theorem dX7_meet_44 : decode cX7_meet 44 = .ok (.invokevirtual 217, 3) := by decide +kernel
theorem dX7_meet_47 : decode cX7_meet 47 = .ok (.iinc 3 1, 3) := by decide +kernel
theorem dX7_meet_50 : decode cX7_meet 50 = .ok (.goto (-28), 3) := by decide +kernel
theorem dX7_meet_53 : decode cX7_meet 53 = .ok (.aload_n 0, 1) := by decide +kernel
theorem dX7_meet_54 : decode cX7_meet 54 = .ok (.aload_n 0, 1) := by decide +kernel
theorem dX7_meet_55 : decode cX7_meet 55 = .ok (.getfield 16, 3) := by decide +kernel
theorem dX7_meet_58 : decode cX7_meet 58 = .ok (.invokevirtual 233, 3) := by decide +kernel
theorem dX7_meet_61 : decode cX7_meet 61 = .ok (.iload_n 3, 1) := by decide +kernel
theorem dX7_meet_62 : decode cX7_meet 62 = .ok (.bipush 60, 2) := by decide +kernel
theorem dX7_meet_64 : decode cX7_meet 64 = .ok (.if_icmp .gt 7, 3) := by decide +kernel
theorem dX7_meet_67 : decode cX7_meet 67 = .ok (.iload_n 3, 1) := by decide +kernel
theorem dX7_meet_68 : decode cX7_meet 68 = .ok (.goto 4, 3) := by decide +kernel
theorem dX7_meet_71 : decode cX7_meet 71 = .ok (.iconst (-1), 1) := by decide +kernel
theorem dX7_meet_72 : decode cX7_meet 72 = .ok (.ireturn, 1) := by decide +kernel
theorem dX7_hurts_0 : decode cX7_hurts 0 = .ok (.iconst 0, 1) := by decide +kernel
theorem dX7_hurts_1 : decode cX7_hurts 1 = .ok (.istore_n 2, 1) := by decide +kernel
theorem dX7_hurts_2 : decode cX7_hurts 2 = .ok (.iconst 0, 1) := by decide +kernel
theorem dX7_hurts_3 : decode cX7_hurts 3 = .ok (.istore_n 3, 1) := by decide +kernel
theorem dX7_hurts_4 : decode cX7_hurts 4 = .ok (.iload_n 3, 1) := by decide +kernel
theorem dX7_hurts_5 : decode cX7_hurts 5 = .ok (.aload_n 0, 1) := by decide +kernel
theorem dX7_hurts_6 : decode cX7_hurts 6 = .ok (.invokevirtual 101, 3) := by decide +kernel
theorem dX7_hurts_9 : decode cX7_hurts 9 = .ok (.if_icmp .ge 40, 3) := by decide +kernel
theorem dX7_hurts_12 : decode cX7_hurts 12 = .ok (.iload_n 2, 1) := by decide +kernel
theorem dX7_hurts_13 : decode cX7_hurts 13 = .ok (.ifCond .ne 24, 3) := by decide +kernel
theorem dX7_hurts_16 : decode cX7_hurts 16 = .ok (.aload_n 0, 1) := by decide +kernel
theorem dX7_hurts_17 : decode cX7_hurts 17 = .ok (.iload_n 3, 1) := by decide +kernel
theorem dX7_hurts_18 : decode cX7_hurts 18 = .ok (.iconst 3, 1) := by decide +kernel
theorem dX7_hurts_19 : decode cX7_hurts 19 = .ok (.invokevirtual 108, 3) := by decide +kernel
theorem dX7_hurts_22 : decode cX7_hurts 22 = .ok (.iload_n 1, 1) := by decide +kernel
theorem dX7_hurts_23 : decode cX7_hurts 23 = .ok (.if_icmp .ne 18, 3) := by decide +kernel
theorem dX7_hurts_26 : decode cX7_hurts 26 = .ok (.aload_n 0, 1) := by decide +kernel
theorem dX7_hurts_27 : decode cX7_hurts 27 = .ok (.iload_n 3, 1) := by decide +kernel
theorem dX7_hurts_28 : decode cX7_hurts 28 = .ok (.iconst 2, 1) := by decide +kernel
theorem dX7_hurts_29 : decode cX7_hurts 29 = .ok (.invokevirtual 108, 3) := by decide +kernel
theorem dX7_hurts_32 : decode cX7_hurts 32 = .ok (.bipush 30, 2) := by decide +kernel
theorem dX7_hurts_34 : decode cX7_hurts 34 = .ok (.if_icmp .le 7, 3) := by decide +kernel
theorem dX7_hurts_37 : decode cX7_hurts 37 = .ok (.iconst 1, 1) := by decide +kernel
theorem dX7_hurts_38 : decode cX7_hurts 38 = .ok (.goto 4, 3) := by decide +kernel
theorem dX7_hurts_41 : decode cX7_hurts 41 = .ok (.iconst 0, 1) := by decide +kernel
theorem dX7_hurts_42 : decode cX7_hurts 42 = .ok (.istore_n 2, 1) := by decide +kernel
theorem dX7_hurts_43 : decode cX7_hurts 43 = .ok (.iinc 3 1, 3) := by decide +kernel
theorem dX7_hurts_46 : decode cX7_hurts 46 = .ok (.goto (-42), 3) := by decide +kernel
theorem dX7_hurts_49 : decode cX7_hurts 49 = .ok (.iload_n 2, 1) := by decide +kernel
theorem dX7_hurts_50 : decode cX7_hurts 50 = .ok (.ireturn, 1) := by decide +kernel
theorem dX7_walk_0 : decode cX7_walk 0 = .ok (.iload_n 1, 1) := by decide +kernel
theorem dX7_walk_1 : decode cX7_walk 1 = .ok (.invokestatic 245, 3) := by decide +kernel
theorem dX7_walk_4 : decode cX7_walk 4 = .ok (.ifCond .ne 6, 3) := by decide +kernel
theorem dX7_walk_7 : decode cX7_walk 7 = .ok (.bipush (-2), 2) := by decide +kernel
theorem dX7_walk_9 : decode cX7_walk 9 = .ok (.ireturn, 1) := by decide +kernel
theorem dX7_walk_10 : decode cX7_walk 10 = .ok (.aload_n 0, 1) := by decide +kernel
theorem dX7_walk_11 : decode cX7_walk 11 = .ok (.getfield 58, 3) := by decide +kernel
theorem dX7_walk_14 : decode cX7_walk 14 = .ok (.iload_n 1, 1) := by decide +kernel
theorem dX7_walk_15 : decode cX7_walk 15 = .ok (.iaload, 1) := by decide +kernel
theorem dX7_walk_16 : decode cX7_walk 16 = .ok (.iconst (-1), 1) := by decide +kernel
theorem dX7_walk_17 : decode cX7_walk 17 = .ok (.if_icmp .ne 6, 3) := by decide +kernel
theorem dX7_walk_20 : decode cX7_walk 20 = .ok (.bipush (-11), 2) := by decide +kernel
theorem dX7_walk_22 : decode cX7_walk 22 = .ok (.ireturn, 1) := by decide +kernel
theorem dX7_walk_23 : decode cX7_walk 23 = .ok (.iconst 0, 1) := by decide +kernel
theorem dX7_walk_24 : decode cX7_walk 24 = .ok (.istore_n 2, 1) := by decide +kernel
theorem dX7_walk_25 : decode cX7_walk 25 = .ok (.iconst 1, 1) := by decide +kernel
theorem dX7_walk_26 : decode cX7_walk 26 = .ok (.istore_n 3, 1) := by decide +kernel
theorem dX7_walk_27 : decode cX7_walk 27 = .ok (.iconst 0, 1) := by decide +kernel
theorem dX7_walk_28 : decode cX7_walk 28 = .ok (.istore 4, 2) := by decide +kernel
theorem dX7_walk_30 : decode cX7_walk 30 = .ok (.iload 4, 2) := by decide +kernel
theorem dX7_walk_32 : decode cX7_walk 32 = .ok (.aload_n 0, 1) := by decide +kernel
theorem dX7_walk_33 : decode cX7_walk 33 = .ok (.getfield 61, 3) := by decide +kernel
theorem dX7_walk_36 : decode cX7_walk 36 = .ok (.iload_n 1, 1) := by decide +kernel
theorem dX7_walk_37 : decode cX7_walk 37 = .ok (.iaload, 1) := by decide +kernel
theorem dX7_walk_38 : decode cX7_walk 38 = .ok (.if_icmp .ge 61, 3) := by decide +kernel
theorem dX7_walk_41 : decode cX7_walk 41 = .ok (.aload_n 0, 1) := by decide +kernel
theorem dX7_walk_42 : decode cX7_walk 42 = .ok (.getfield 64, 3) := by decide +kernel
theorem dX7_walk_45 : decode cX7_walk 45 = .ok (.bipush 40, 2) := by decide +kernel
theorem dX7_walk_47 : decode cX7_walk 47 = .ok (.iload_n 1, 1) := by decide +kernel
theorem dX7_walk_48 : decode cX7_walk 48 = .ok (.imul, 1) := by decide +kernel
theorem dX7_walk_49 : decode cX7_walk 49 = .ok (.iload 4, 2) := by decide +kernel
theorem dX7_walk_51 : decode cX7_walk 51 = .ok (.iadd, 1) := by decide +kernel
theorem dX7_walk_52 : decode cX7_walk 52 = .ok (.iaload, 1) := by decide +kernel
theorem dX7_walk_53 : decode cX7_walk 53 = .ok (.istore 5, 2) := by decide +kernel
theorem dX7_walk_55 : decode cX7_walk 55 = .ok (.iload_n 3, 1) := by decide +kernel
theorem dX7_walk_56 : decode cX7_walk 56 = .ok (.ifCond .eq 18, 3) := by decide +kernel
theorem dX7_walk_59 : decode cX7_walk 59 = .ok (.iload 5, 2) := by decide +kernel
theorem dX7_walk_61 : decode cX7_walk 61 = .ok (.iconst 0, 1) := by decide +kernel
theorem dX7_walk_62 : decode cX7_walk 62 = .ok (.bipush 11, 2) := by decide +kernel
theorem dX7_walk_64 : decode cX7_walk 64 = .ok (.invokestatic 86, 3) := by decide +kernel
theorem dX7_walk_67 : decode cX7_walk 67 = .ok (.ifCond .eq 7, 3) := by decide +kernel
theorem dX7_walk_70 : decode cX7_walk 70 = .ok (.iconst 1, 1) := by decide +kernel
theorem dX7_walk_71 : decode cX7_walk 71 = .ok (.goto 4, 3) := by decide +kernel
theorem dX7_walk_74 : decode cX7_walk 74 = .ok (.iconst 0, 1) := by decide +kernel
theorem dX7_walk_75 : decode cX7_walk 75 = .ok (.istore_n 3, 1) := by decide +kernel
theorem dX7_walk_76 : decode cX7_walk 76 = .ok (.iload_n 2, 1) := by decide +kernel
theorem dX7_walk_77 : decode cX7_walk 77 = .ok (.aload_n 0, 1) := by decide +kernel
theorem dX7_walk_78 : decode cX7_walk 78 = .ok (.iload 5, 2) := by decide +kernel
theorem dX7_walk_80 : decode cX7_walk 80 = .ok (.invokevirtual 248, 3) := by decide +kernel
theorem dX7_walk_83 : decode cX7_walk 83 = .ok (.ifCond .eq 7, 3) := by decide +kernel
theorem dX7_walk_86 : decode cX7_walk 86 = .ok (.iconst 1, 1) := by decide +kernel
theorem dX7_walk_87 : decode cX7_walk 87 = .ok (.goto 4, 3) := by decide +kernel
theorem dX7_walk_90 : decode cX7_walk 90 = .ok (.iconst 0, 1) := by decide +kernel
theorem dX7_walk_91 : decode cX7_walk 91 = .ok (.iadd, 1) := by decide +kernel
theorem dX7_walk_92 : decode cX7_walk 92 = .ok (.istore_n 2, 1) := by decide +kernel
theorem dX7_walk_93 : decode cX7_walk 93 = .ok (.iinc 4 1, 3) := by decide +kernel
theorem dX7_walk_96 : decode cX7_walk 96 = .ok (.goto (-66), 3) := by decide +kernel
theorem dX7_walk_99 : decode cX7_walk 99 = .ok (.iload_n 3, 1) := by decide +kernel
theorem dX7_walk_100 : decode cX7_walk 100 = .ok (.ifCond .eq 7, 3) := by decide +kernel
theorem dX7_walk_103 : decode cX7_walk 103 = .ok (.iload_n 2, 1) := by decide +kernel
theorem dX7_walk_104 : decode cX7_walk 104 = .ok (.goto 5, 3) := by decide +kernel
theorem dX7_walk_107 : decode cX7_walk 107 = .ok (.bipush (-2), 2) := by decide +kernel
theorem dX7_walk_109 : decode cX7_walk 109 = .ok (.ireturn, 1) := by decide +kernel
theorem dX7_isUnlike_0 : decode cX7_isUnlike 0 = .ok (.aload_n 0, 1) := by decide +kernel
theorem dX7_isUnlike_1 : decode cX7_isUnlike 1 = .ok (.iload_n 1, 1) := by decide +kernel
theorem dX7_isUnlike_2 : decode cX7_isUnlike 2 = .ok (.iload_n 2, 1) := by decide +kernel
theorem dX7_isUnlike_3 : decode cX7_isUnlike 3 = .ok (.invokevirtual 111, 3) := by decide +kernel
theorem dX7_isUnlike_6 : decode cX7_isUnlike 6 = .ok (.ifCond .ne 12, 3) := by decide +kernel
theorem dX7_isUnlike_9 : decode cX7_isUnlike 9 = .ok (.aload_n 0, 1) := by decide +kernel
theorem dX7_isUnlike_10 : decode cX7_isUnlike 10 = .ok (.iload_n 2, 1) := by decide +kernel
theorem dX7_isUnlike_11 : decode cX7_isUnlike 11 = .ok (.iload_n 1, 1) := by decide +kernel
theorem dX7_isUnlike_12 : decode cX7_isUnlike 12 = .ok (.invokevirtual 111, 3) := by decide +kernel
theorem dX7_isUnlike_15 : decode cX7_isUnlike 15 = .ok (.ifCond .eq 7, 3) := by decide +kernel
theorem dX7_isUnlike_18 : decode cX7_isUnlike 18 = .ok (.iconst 1, 1) := by decide +kernel
theorem dX7_isUnlike_19 : decode cX7_isUnlike 19 = .ok (.goto 4, 3) := by decide +kernel
theorem dX7_isUnlike_22 : decode cX7_isUnlike 22 = .ok (.iconst 0, 1) := by decide +kernel
theorem dX7_isUnlike_23 : decode cX7_isUnlike 23 = .ok (.ireturn, 1) := by decide +kernel
theorem dX7_fill_0 : decode cX7_fill 0 = .ok (.iload_n 2, 1) := by decide +kernel
theorem dX7_fill_1 : decode cX7_fill 1 = .ok (.aload_n 0, 1) := by decide +kernel
theorem dX7_fill_2 : decode cX7_fill 2 = .ok (.getfield 251, 3) := by decide +kernel
theorem dX7_fill_5 : decode cX7_fill 5 = .ok (.if_icmp .lt 4, 3) := by decide +kernel
theorem dX7_fill_8 : decode cX7_fill 8 = .ok (.return_, 1) := by decide +kernel
theorem dX7_fill_9 : decode cX7_fill 9 = .ok (.iload_n 1, 1) := by decide +kernel
theorem dX7_fill_10 : decode cX7_fill 10 = .ok (.aload_n 0, 1) := by decide +kernel
theorem dX7_fill_11 : decode cX7_fill 11 = .ok (.invokevirtual 101, 3) := by decide +kernel
theorem dX7_fill_14 : decode cX7_fill 14 = .ok (.if_icmp .ne 14, 3) := by decide +kernel
theorem dX7_fill_17 : decode cX7_fill 17 = .ok (.aload_n 0, 1) := by decide +kernel
theorem dX7_fill_18 : decode cX7_fill 18 = .ok (.iload_n 2, 1) := by decide +kernel
theorem dX7_fill_19 : decode cX7_fill 19 = .ok (.putfield 251, 3) := by decide +kernel
theorem dX7_fill_22 : decode cX7_fill 22 = .ok (.aload_n 0, 1) := by decide +kernel
theorem dX7_fill_23 : decode cX7_fill 23 = .ok (.iload_n 3, 1) := by decide +kernel
theorem dX7_fill_24 : decode cX7_fill 24 = .ok (.putfield 254, 3) := by decide +kernel
theorem dX7_fill_27 : decode cX7_fill 27 = .ok (.return_, 1) := by decide +kernel
theorem dX7_fill_28 : decode cX7_fill 28 = .ok (.iload_n 1, 1) := by decide +kernel
theorem dX7_fill_29 : decode cX7_fill 29 = .ok (.iload 4, 2) := by decide +kernel
theorem dX7_fill_31 : decode cX7_fill 31 = .ok (.if_icmp .ne 15, 3) := by decide +kernel
