theorem dX7_tells_159 : decode cX7_tells 159 = .ok (.invokevirtual 286, 3) := by decide +kernel
theorem dX7_tells_162 : decode cX7_tells 162 = .ok (.ireturn, 1) := by decide +kernel
theorem dX7_tells_163 : decode cX7_tells 163 = .ok (.aload_n 0, 1) := by decide +kernel
theorem dX7_tells_164 : decode cX7_tells 164 = .ok (.iload_n 1, 1) := by decide +kernel
theorem dX7_tells_165 : decode cX7_tells 165 = .ok (.iload_n 2, 1) := by decide +kernel
theorem dX7_tells_166 : decode cX7_tells 166 = .ok (.bipush 42, 2) := by decide +kernel
theorem dX7_tells_168 : decode cX7_tells 168 = .ok (.aload_n 0, 1) := by decide +kernel
theorem dX7_tells_169 : decode cX7_tells 169 = .ok (.getfield 32, 3) := by decide +kernel
theorem dX7_tells_172 : decode cX7_tells 172 = .ok (.iconst 1, 1) := by decide +kernel
theorem dX7_tells_173 : decode cX7_tells 173 = .ok (.isub, 1) := by decide +kernel
theorem dX7_tells_174 : decode cX7_tells 174 = .ok (.invokevirtual 286, 3) := by decide +kernel
theorem dX7_tells_177 : decode cX7_tells 177 = .ok (.ireturn, 1) := by decide +kernel
theorem dX7_tells_178 : decode cX7_tells 178 = .ok (.iconst 0, 1) := by decide +kernel
theorem dX7_tells_179 : decode cX7_tells 179 = .ok (.istore 5, 2) := by decide +kernel
theorem dX7_tells_181 : decode cX7_tells 181 = .ok (.iload 5, 2) := by decide +kernel
theorem dX7_tells_183 : decode cX7_tells 183 = .ok (.aload_n 0, 1) := by decide +kernel
theorem dX7_tells_184 : decode cX7_tells 184 = .ok (.invokevirtual 101, 3) := by decide +kernel
theorem dX7_tells_187 : decode cX7_tells 187 = .ok (.if_icmp .ge 33, 3) := by decide +kernel
theorem dX7_tells_190 : decode cX7_tells 190 = .ok (.iload 4, 2) := by decide +kernel
theorem dX7_tells_192 : decode cX7_tells 192 = .ok (.aload_n 0, 1) := by decide +kernel
theorem dX7_tells_193 : decode cX7_tells 193 = .ok (.iload_n 1, 1) := by decide +kernel
theorem dX7_tells_194 : decode cX7_tells 194 = .ok (.iload 5, 2) := by decide +kernel
theorem dX7_tells_196 : decode cX7_tells 196 = .ok (.invokevirtual 283, 3) := by decide +kernel
theorem dX7_tells_199 : decode cX7_tells 199 = .ok (.iconst (-1), 1) := by decide +kernel
theorem dX7_tells_200 : decode cX7_tells 200 = .ok (.if_icmp .ne 10, 3) := by decide +kernel
theorem dX7_tells_203 : decode cX7_tells 203 = .ok (.iconst 1, 1) := by decide +kernel
theorem dX7_tells_204 : decode cX7_tells 204 = .ok (.iload 5, 2) := by decide +kernel
theorem dX7_tells_206 : decode cX7_tells 206 = .ok (.ishl, 1) := by decide +kernel
theorem dX7_tells_207 : decode cX7_tells 207 = .ok (.goto 4, 3) := by decide +kernel
theorem dX7_tells_210 : decode cX7_tells 210 = .ok (.iconst 0, 1) := by decide +kernel
theorem dX7_tells_211 : decode cX7_tells 211 = .ok (.ior, 1) := by decide +kernel
theorem dX7_tells_212 : decode cX7_tells 212 = .ok (.istore 4, 2) := by decide +kernel
theorem dX7_tells_214 : decode cX7_tells 214 = .ok (.iinc 5 1, 3) := by decide +kernel
theorem dX7_tells_217 : decode cX7_tells 217 = .ok (.goto (-36), 3) := by decide +kernel
theorem dX7_tells_220 : decode cX7_tells 220 = .ok (.iload 4, 2) := by decide +kernel
theorem dX7_tells_222 : decode cX7_tells 222 = .ok (.ireturn, 1) := by decide +kernel
theorem dX7_film_0 : decode cX7_film 0 = .ok (.iload_n 1, 1) := by decide +kernel
theorem dX7_film_1 : decode cX7_film 1 = .ok (.invokestatic 245, 3) := by decide +kernel
theorem dX7_film_4 : decode cX7_film 4 = .ok (.ifCond .eq 21, 3) := by decide +kernel
theorem dX7_film_7 : decode cX7_film 7 = .ok (.aload_n 0, 1) := by decide +kernel
theorem dX7_film_8 : decode cX7_film 8 = .ok (.iload_n 2, 1) := by decide +kernel
theorem dX7_film_9 : decode cX7_film 9 = .ok (.invokevirtual 94, 3) := by decide +kernel
theorem dX7_film_12 : decode cX7_film 12 = .ok (.ifCond .eq 13, 3) := by decide +kernel
theorem dX7_film_15 : decode cX7_film 15 = .ok (.iload_n 3, 1) := by decide +kernel
theorem dX7_film_16 : decode cX7_film 16 = .ok (.iconst 0, 1) := by decide +kernel
theorem dX7_film_17 : decode cX7_film 17 = .ok (.bipush 30, 2) := by decide +kernel
theorem dX7_film_19 : decode cX7_film 19 = .ok (.invokestatic 86, 3) := by decide +kernel
theorem dX7_film_22 : decode cX7_film 22 = .ok (.ifCond .ne 6, 3) := by decide +kernel
theorem dX7_film_25 : decode cX7_film 25 = .ok (.bipush (-2), 2) := by decide +kernel
theorem dX7_film_27 : decode cX7_film 27 = .ok (.ireturn, 1) := by decide +kernel
theorem dX7_film_28 : decode cX7_film 28 = .ok (.aload_n 0, 1) := by decide +kernel
theorem dX7_film_29 : decode cX7_film 29 = .ok (.iload_n 1, 1) := by decide +kernel
theorem dX7_film_30 : decode cX7_film 30 = .ok (.iconst 0, 1) := by decide +kernel
theorem dX7_film_31 : decode cX7_film 31 = .ok (.iload_n 3, 1) := by decide +kernel
theorem dX7_film_32 : decode cX7_film 32 = .ok (.invokevirtual 293, 3) := by decide +kernel
theorem dX7_film_35 : decode cX7_film 35 = .ok (.pop, 1) := by decide +kernel
theorem dX7_film_36 : decode cX7_film 36 = .ok (.aload_n 0, 1) := by decide +kernel
theorem dX7_film_37 : decode cX7_film 37 = .ok (.aload_n 0, 1) := by decide +kernel
theorem dX7_film_38 : decode cX7_film 38 = .ok (.getfield 16, 3) := by decide +kernel
theorem dX7_film_41 : decode cX7_film 41 = .ok (.invokevirtual 223, 3) := by decide +kernel
theorem dX7_film_44 : decode cX7_film 44 = .ok (.iconst 0, 1) := by decide +kernel
theorem dX7_film_45 : decode cX7_film 45 = .ok (.istore 4, 2) := by decide +kernel
theorem dX7_film_47 : decode cX7_film 47 = .ok (.iload 4, 2) := by decide +kernel
theorem dX7_film_49 : decode cX7_film 49 = .ok (.iload_n 3, 1) := by decide +kernel
theorem dX7_film_50 : decode cX7_film 50 = .ok (.if_icmp .ge 31, 3) := by decide +kernel
theorem dX7_film_53 : decode cX7_film 53 = .ok (.aload_n 0, 1) := by decide +kernel
theorem dX7_film_54 : decode cX7_film 54 = .ok (.getfield 64, 3) := by decide +kernel
theorem dX7_film_57 : decode cX7_film 57 = .ok (.bipush 40, 2) := by decide +kernel
theorem dX7_film_59 : decode cX7_film 59 = .ok (.iload_n 1, 1) := by decide +kernel
theorem dX7_film_60 : decode cX7_film 60 = .ok (.imul, 1) := by decide +kernel
theorem dX7_film_61 : decode cX7_film 61 = .ok (.iload 4, 2) := by decide +kernel
theorem dX7_film_63 : decode cX7_film 63 = .ok (.iadd, 1) := by decide +kernel
theorem dX7_film_64 : decode cX7_film 64 = .ok (.aload_n 0, 1) := by decide +kernel
theorem dX7_film_65 : decode cX7_film 65 = .ok (.iload_n 2, 1) := by decide +kernel
theorem dX7_film_66 : decode cX7_film 66 = .ok (.iconst 2, 1) := by decide +kernel
theorem dX7_film_67 : decode cX7_film 67 = .ok (.invokevirtual 108, 3) := by decide +kernel
theorem dX7_film_70 : decode cX7_film 70 = .ok (.iastore, 1) := by decide +kernel
theorem dX7_film_71 : decode cX7_film 71 = .ok (.aload_n 0, 1) := by decide +kernel
theorem dX7_film_72 : decode cX7_film 72 = .ok (.invokevirtual 217, 3) := by decide +kernel
theorem dX7_film_75 : decode cX7_film 75 = .ok (.iinc 4 1, 3) := by decide +kernel
theorem dX7_film_78 : decode cX7_film 78 = .ok (.goto (-31), 3) := by decide +kernel
theorem dX7_film_81 : decode cX7_film 81 = .ok (.aload_n 0, 1) := by decide +kernel
theorem dX7_film_82 : decode cX7_film 82 = .ok (.aload_n 0, 1) := by decide +kernel
theorem dX7_film_83 : decode cX7_film 83 = .ok (.getfield 16, 3) := by decide +kernel
theorem dX7_film_86 : decode cX7_film 86 = .ok (.invokevirtual 233, 3) := by decide +kernel
theorem dX7_film_89 : decode cX7_film 89 = .ok (.iload_n 3, 1) := by decide +kernel
theorem dX7_film_90 : decode cX7_film 90 = .ok (.ireturn, 1) := by decide +kernel
theorem dX7_drawn_0 : decode cX7_drawn 0 = .ok (.iload_n 2, 1) := by decide +kernel
theorem dX7_drawn_1 : decode cX7_drawn 1 = .ok (.iconst 0, 1) := by decide +kernel
theorem dX7_drawn_2 : decode cX7_drawn 2 = .ok (.bipush 40, 2) := by decide +kernel
theorem dX7_drawn_4 : decode cX7_drawn 4 = .ok (.invokestatic 86, 3) := by decide +kernel
theorem dX7_drawn_7 : decode cX7_drawn 7 = .ok (.ifCond .ne 6, 3) := by decide +kernel
theorem dX7_drawn_10 : decode cX7_drawn 10 = .ok (.bipush (-2), 2) := by decide +kernel
theorem dX7_drawn_12 : decode cX7_drawn 12 = .ok (.ireturn, 1) := by decide +kernel
theorem dX7_drawn_13 : decode cX7_drawn 13 = .ok (.aload_n 0, 1) := by decide +kernel
theorem dX7_drawn_14 : decode cX7_drawn 14 = .ok (.aload_n 0, 1) := by decide +kernel
theorem dX7_drawn_15 : decode cX7_drawn 15 = .ok (.getfield 16, 3) := by decide +kernel
theorem dX7_drawn_18 : decode cX7_drawn 18 = .ok (.invokevirtual 223, 3) := by decide +kernel
theorem dX7_drawn_21 : decode cX7_drawn 21 = .ok (.iload_n 1, 1) := by decide +kernel
theorem dX7_drawn_22 : decode cX7_drawn 22 = .ok (.istore_n 3, 1) := by decide +kernel
theorem dX7_drawn_23 : decode cX7_drawn 23 = .ok (.iconst 0, 1) := by decide +kernel
theorem dX7_drawn_24 : decode cX7_drawn 24 = .ok (.istore 4, 2) := by decide +kernel
theorem dX7_drawn_26 : decode cX7_drawn 26 = .ok (.iload 4, 2) := by decide +kernel
theorem dX7_drawn_28 : decode cX7_drawn 28 = .ok (.iload_n 2, 1) := by decide +kernel
theorem dX7_drawn_29 : decode cX7_drawn 29 = .ok (.if_icmp .ge 50, 3) := by decide +kernel
theorem dX7_drawn_32 : decode cX7_drawn 32 = .ok (.iload_n 3, 1) := by decide +kernel
theorem dX7_drawn_33 : decode cX7_drawn 33 = .ok (.ldc_w 296, 3) := by decide +kernel
theorem dX7_drawn_36 : decode cX7_drawn 36 = .ok (.imul, 1) := by decide +kernel
theorem dX7_drawn_37 : decode cX7_drawn 37 = .ok (.sipush 12345, 3) := by decide +kernel
theorem dX7_drawn_40 : decode cX7_drawn 40 = .ok (.iadd, 1) := by decide +kernel
theorem dX7_drawn_41 : decode cX7_drawn 41 = .ok (.istore_n 3, 1) := by decide +kernel
theorem dX7_drawn_42 : decode cX7_drawn 42 = .ok (.iload_n 3, 1) := by decide +kernel
theorem dX7_drawn_43 : decode cX7_drawn 43 = .ok (.bipush 9, 2) := by decide +kernel
theorem dX7_drawn_45 : decode cX7_drawn 45 = .ok (.iushr, 1) := by decide +kernel
theorem dX7_drawn_46 : decode cX7_drawn 46 = .ok (.bipush 16, 2) := by decide +kernel
theorem dX7_drawn_48 : decode cX7_drawn 48 = .ok (.irem, 1) := by decide +kernel
theorem dX7_drawn_49 : decode cX7_drawn 49 = .ok (.istore 5, 2) := by decide +kernel
theorem dX7_drawn_51 : decode cX7_drawn 51 = .ok (.aload_n 0, 1) := by decide +kernel
theorem dX7_drawn_52 : decode cX7_drawn 52 = .ok (.iload 5, 2) := by decide +kernel
theorem dX7_drawn_54 : decode cX7_drawn 54 = .ok (.invokevirtual 94, 3) := by decide +kernel
theorem dX7_drawn_57 : decode cX7_drawn 57 = .ok (.ifCond .eq 12, 3) := by decide +kernel
theorem dX7_drawn_60 : decode cX7_drawn 60 = .ok (.aload_n 0, 1) := by decide +kernel
theorem dX7_drawn_61 : decode cX7_drawn 61 = .ok (.iload 5, 2) := by decide +kernel
theorem dX7_drawn_63 : decode cX7_drawn 63 = .ok (.iconst 2, 1) := by decide +kernel
theorem dX7_drawn_64 : decode cX7_drawn 64 = .ok (.bipush 99, 2) := by decide +kernel
theorem dX7_drawn_66 : decode cX7_drawn 66 = .ok (.invokevirtual 104, 3) := by decide +kernel
theorem dX7_drawn_69 : decode cX7_drawn 69 = .ok (.aload_n 0, 1) := by decide +kernel
theorem dX7_drawn_70 : decode cX7_drawn 70 = .ok (.invokevirtual 217, 3) := by decide +kernel
theorem dX7_drawn_73 : decode cX7_drawn 73 = .ok (.iinc 4 1, 3) := by decide +kernel
theorem dX7_drawn_76 : decode cX7_drawn 76 = .ok (.goto (-50), 3) := by decide +kernel
theorem dX7_drawn_79 : decode cX7_drawn 79 = .ok (.aload_n 0, 1) := by decide +kernel
theorem dX7_drawn_80 : decode cX7_drawn 80 = .ok (.invokevirtual 220, 3) := by decide +kernel
theorem dX7_drawn_83 : decode cX7_drawn 83 = .ok (.istore 4, 2) := by decide +kernel
theorem dX7_drawn_85 : decode cX7_drawn 85 = .ok (.aload_n 0, 1) := by decide +kernel
theorem dX7_drawn_86 : decode cX7_drawn 86 = .ok (.aload_n 0, 1) := by decide +kernel
theorem dX7_drawn_87 : decode cX7_drawn 87 = .ok (.getfield 16, 3) := by decide +kernel
theorem dX7_drawn_90 : decode cX7_drawn 90 = .ok (.invokevirtual 233, 3) := by decide +kernel
theorem dX7_drawn_93 : decode cX7_drawn 93 = .ok (.iload 4, 2) := by decide +kernel
theorem dX7_drawn_95 : decode cX7_drawn 95 = .ok (.ireturn, 1) := by decide +kernel
theorem dX7_chance_0 : decode cX7_chance 0 = .ok (.iload_n 2, 1) := by decide +kernel
theorem dX7_chance_1 : decode cX7_chance 1 = .ok (.iconst 1, 1) := by decide +kernel
theorem dX7_chance_2 : decode cX7_chance 2 = .ok (.bipush 20, 2) := by decide +kernel
theorem dX7_chance_4 : decode cX7_chance 4 = .ok (.invokestatic 86, 3) := by decide +kernel
theorem dX7_chance_7 : decode cX7_chance 7 = .ok (.ifCond .eq 23, 3) := by decide +kernel
theorem dX7_chance_10 : decode cX7_chance 10 = .ok (.iload_n 3, 1) := by decide +kernel
theorem dX7_chance_11 : decode cX7_chance 11 = .ok (.iconst 0, 1) := by decide +kernel
theorem dX7_chance_12 : decode cX7_chance 12 = .ok (.bipush 8, 2) := by decide +kernel
theorem dX7_chance_14 : decode cX7_chance 14 = .ok (.invokestatic 86, 3) := by decide +kernel
theorem dX7_chance_17 : decode cX7_chance 17 = .ok (.ifCond .eq 13, 3) := by decide +kernel
theorem dX7_chance_20 : decode cX7_chance 20 = .ok (.iload 4, 2) := by decide +kernel
theorem dX7_chance_22 : decode cX7_chance 22 = .ok (.iconst 0, 1) := by decide +kernel
theorem dX7_chance_23 : decode cX7_chance 23 = .ok (.iconst 1, 1) := by decide +kernel
theorem dX7_chance_24 : decode cX7_chance 24 = .ok (.invokestatic 86, 3) := by decide +kernel
theorem dX7_chance_27 : decode cX7_chance 27 = .ok (.ifCond .ne 7, 3) := by decide +kernel
theorem dX7_chance_30 : decode cX7_chance 30 = .ok (.ldc2_w 277, 3) := by decide +kernel
theorem dX7_chance_33 : decode cX7_chance 33 = .ok (.lreturn, 1) := by decide +kernel
theorem dX7_chance_34 : decode cX7_chance 34 = .ok (.lconst 0, 1) := by decide +kernel
theorem dX7_chance_35 : decode cX7_chance 35 = .ok (.lstore 5, 2) := by decide +kernel
theorem dX7_chance_37 : decode cX7_chance 37 = .ok (.iconst 0, 1) := by decide +kernel
theorem dX7_chance_38 : decode cX7_chance 38 = .ok (.istore 7, 2) := by decide +kernel
theorem dX7_chance_40 : decode cX7_chance 40 = .ok (.iload 7, 2) := by decide +kernel
theorem dX7_chance_42 : decode cX7_chance 42 = .ok (.iload_n 2, 1) := by decide +kernel
theorem dX7_chance_43 : decode cX7_chance 43 = .ok (.if_icmp .ge 33, 3) := by decide +kernel
theorem dX7_chance_46 : decode cX7_chance 46 = .ok (.lload 5, 2) := by decide +kernel
theorem dX7_chance_48 : decode cX7_chance 48 = .ok (.aload_n 0, 1) := by decide +kernel
theorem dX7_chance_49 : decode cX7_chance 49 = .ok (.iload_n 1, 1) := by decide +kernel
theorem dX7_chance_50 : decode cX7_chance 50 = .ok (.iload 7, 2) := by decide +kernel
theorem dX7_chance_52 : decode cX7_chance 52 = .ok (.iadd, 1) := by decide +kernel
theorem dX7_chance_53 : decode cX7_chance 53 = .ok (.bipush 20, 2) := by decide +kernel
theorem dX7_chance_55 : decode cX7_chance 55 = .ok (.invokevirtual 297, 3) := by decide +kernel
theorem dX7_chance_58 : decode cX7_chance 58 = .ok (.iload_n 3, 1) := by decide +kernel
theorem dX7_chance_59 : decode cX7_chance 59 = .ok (.if_icmp .lt 7, 3) := by decide +kernel
theorem dX7_chance_62 : decode cX7_chance 62 = .ok (.lconst 1, 1) := by decide +kernel
theorem dX7_chance_63 : decode cX7_chance 63 = .ok (.goto 4, 3) := by decide +kernel
theorem dX7_chance_66 : decode cX7_chance 66 = .ok (.lconst 0, 1) := by decide +kernel
theorem dX7_chance_67 : decode cX7_chance 67 = .ok (.ladd, 1) := by decide +kernel
theorem dX7_chance_68 : decode cX7_chance 68 = .ok (.lstore 5, 2) := by decide +kernel
theorem dX7_chance_70 : decode cX7_chance 70 = .ok (.iinc 7 1, 3) := by decide +kernel
theorem dX7_chance_73 : decode cX7_chance 73 = .ok (.goto (-33), 3) := by decide +kernel
theorem dX7_chance_76 : decode cX7_chance 76 = .ok (.iload_n 2, 1) := by decide +kernel
theorem dX7_chance_77 : decode cX7_chance 77 = .ok (.i2l, 1) := by decide +kernel
theorem dX7_chance_78 : decode cX7_chance 78 = .ok (.lload 5, 2) := by decide +kernel
theorem dX7_chance_80 : decode cX7_chance 80 = .ok (.invokestatic 273, 3) := by decide +kernel
theorem dX7_chance_83 : decode cX7_chance 83 = .ok (.lstore 7, 2) := by decide +kernel
theorem dX7_chance_85 : decode cX7_chance 85 = .ok (.iload 4, 2) := by decide +kernel
theorem dX7_chance_87 : decode cX7_chance 87 = .ok (.ifCond .ne 11, 3) := by decide +kernel
theorem dX7_chance_90 : decode cX7_chance 90 = .ok (.lload 5, 2) := by decide +kernel
theorem dX7_chance_92 : decode cX7_chance 92 = .ok (.lload 7, 2) := by decide +kernel
theorem dX7_chance_94 : decode cX7_chance 94 = .ok (.ldiv, 1) := by decide +kernel
theorem dX7_chance_95 : decode cX7_chance 95 = .ok (.goto 8, 3) := by decide +kernel
theorem dX7_chance_98 : decode cX7_chance 98 = .ok (.iload_n 2, 1) := by decide +kernel
theorem dX7_chance_99 : decode cX7_chance 99 = .ok (.i2l, 1) := by decide +kernel
theorem dX7_chance_100 : decode cX7_chance 100 = .ok (.lload 7, 2) := by decide +kernel
theorem dX7_chance_102 : decode cX7_chance 102 = .ok (.ldiv, 1) := by decide +kernel
theorem dX7_chance_103 : decode cX7_chance 103 = .ok (.lreturn, 1) := by decide +kernel
theorem dX7_image_0 : decode cX7_image 0 = .ok (.aload_n 0, 1) := by decide +kernel
theorem dX7_image_1 : decode cX7_image 1 = .ok (.aload_n 0, 1) := by decide +kernel
theorem dX7_image_2 : decode cX7_image 2 = .ok (.getfield 13, 3) := by decide +kernel
theorem dX7_image_5 : decode cX7_image 5 = .ok (.invokevirtual 223, 3) := by decide +kernel
theorem dX7_image_8 : decode cX7_image 8 = .ok (.aload_n 0, 1) := by decide +kernel
theorem dX7_image_9 : decode cX7_image 9 = .ok (.iconst 1, 1) := by decide +kernel
theorem dX7_image_10 : decode cX7_image 10 = .ok (.putfield 300, 3) := by decide +kernel
theorem dX7_image_13 : decode cX7_image 13 = .ok (.aload_n 0, 1) := by decide +kernel
theorem dX7_image_14 : decode cX7_image 14 = .ok (.invokevirtual 101, 3) := by decide +kernel
theorem dX7_image_17 : decode cX7_image 17 = .ok (.ireturn, 1) := by decide +kernel
theorem dX7_back_0 : decode cX7_back 0 = .ok (.aload_n 0, 1) := by decide +kernel
theorem dX7_back_1 : decode cX7_back 1 = .ok (.getfield 300, 3) := by decide +kernel
theorem dX7_back_4 : decode cX7_back 4 = .ok (.ifCond .ne 6, 3) := by decide +kernel
theorem dX7_back_7 : decode cX7_back 7 = .ok (.bipush (-3), 2) := by decide +kernel
theorem dX7_back_9 : decode cX7_back 9 = .ok (.ireturn, 1) := by decide +kernel
theorem dX7_back_10 : decode cX7_back 10 = .ok (.aload_n 0, 1) := by decide +kernel
theorem dX7_back_11 : decode cX7_back 11 = .ok (.aload_n 0, 1) := by decide +kernel
theorem dX7_back_12 : decode cX7_back 12 = .ok (.getfield 13, 3) := by decide +kernel
theorem dX7_back_15 : decode cX7_back 15 = .ok (.invokevirtual 233, 3) := by decide +kernel
theorem dX7_back_18 : decode cX7_back 18 = .ok (.aload_n 0, 1) := by decide +kernel
theorem dX7_back_19 : decode cX7_back 19 = .ok (.invokevirtual 101, 3) := by decide +kernel
theorem dX7_back_22 : decode cX7_back 22 = .ok (.ireturn, 1) := by decide +kernel
theorem dX7_cants_0 : decode cX7_cants 0 = .ok (.iconst 0, 1) := by decide +kernel
theorem dX7_cants_1 : decode cX7_cants 1 = .ok (.istore_n 1, 1) := by decide +kernel
theorem dX7_cants_2 : decode cX7_cants 2 = .ok (.iconst 0, 1) := by decide +kernel
theorem dX7_cants_3 : decode cX7_cants 3 = .ok (.istore_n 2, 1) := by decide +kernel
theorem dX7_cants_4 : decode cX7_cants 4 = .ok (.iload_n 2, 1) := by decide +kernel
theorem dX7_cants_5 : decode cX7_cants 5 = .ok (.aload_n 0, 1) := by decide +kernel
theorem dX7_cants_6 : decode cX7_cants 6 = .ok (.invokevirtual 101, 3) := by decide +kernel
theorem dX7_cants_9 : decode cX7_cants 9 = .ok (.if_icmp .ge 39, 3) := by decide +kernel
theorem dX7_cants_12 : decode cX7_cants 12 = .ok (.iconst 0, 1) := by decide +kernel
theorem dX7_cants_13 : decode cX7_cants 13 = .ok (.istore_n 3, 1) := by decide +kernel
theorem dX7_cants_14 : decode cX7_cants 14 = .ok (.iload_n 3, 1) := by decide +kernel
theorem dX7_cants_15 : decode cX7_cants 15 = .ok (.iload_n 2, 1) := by decide +kernel
theorem dX7_cants_16 : decode cX7_cants 16 = .ok (.if_icmp .ge 26, 3) := by decide +kernel
theorem dX7_cants_19 : decode cX7_cants 19 = .ok (.iload_n 1, 1) := by decide +kernel
theorem dX7_cants_20 : decode cX7_cants 20 = .ok (.aload_n 0, 1) := by decide +kernel
theorem dX7_cants_21 : decode cX7_cants 21 = .ok (.iload_n 2, 1) := by decide +kernel
theorem dX7_cants_22 : decode cX7_cants 22 = .ok (.iload_n 3, 1) := by decide +kernel
theorem dX7_cants_23 : decode cX7_cants 23 = .ok (.invokevirtual 261, 3) := by decide +kernel
theorem dX7_cants_26 : decode cX7_cants 26 = .ok (.ifCond .eq 7, 3) := by decide +kernel
theorem dX7_cants_29 : decode cX7_cants 29 = .ok (.iconst 1, 1) := by decide +kernel
theorem dX7_cants_30 : decode cX7_cants 30 = .ok (.goto 4, 3) := by decide +kernel
theorem dX7_cants_33 : decode cX7_cants 33 = .ok (.iconst 0, 1) := by decide +kernel
theorem dX7_cants_34 : decode cX7_cants 34 = .ok (.iadd, 1) := by decide +kernel
theorem dX7_cants_35 : decode cX7_cants 35 = .ok (.istore_n 1, 1) := by decide +kernel
theorem dX7_cants_36 : decode cX7_cants 36 = .ok (.iinc 3 1, 3) := by decide +kernel
theorem dX7_cants_39 : decode cX7_cants 39 = .ok (.goto (-25), 3) := by decide +kernel
theorem dX7_cants_42 : decode cX7_cants 42 = .ok (.iinc 2 1, 3) := by decide +kernel
theorem dX7_cants_45 : decode cX7_cants 45 = .ok (.goto (-41), 3) := by decide +kernel
theorem dX7_cants_48 : decode cX7_cants 48 = .ok (.iload_n 1, 1) := by decide +kernel
theorem dX7_cants_49 : decode cX7_cants 49 = .ok (.ireturn, 1) := by decide +kernel
theorem dX7_count_0 : decode cX7_count 0 = .ok (.iload_n 1, 1) := by decide +kernel
theorem dX7_count_1 : decode cX7_count 1 = .ok (.tableswitch 75 0 5 #[39, 44, 49, 57, 62, 67], 39) := by decide +kernel
theorem dX7_count_40 : decode cX7_count 40 = .ok (.aload_n 0, 1) := by decide +kernel
theorem dX7_count_41 : decode cX7_count 41 = .ok (.invokevirtual 101, 3) := by decide +kernel
theorem dX7_count_44 : decode cX7_count 44 = .ok (.ireturn, 1) := by decide +kernel
theorem dX7_count_45 : decode cX7_count 45 = .ok (.aload_n 0, 1) := by decide +kernel
theorem dX7_count_46 : decode cX7_count 46 = .ok (.invokevirtual 304, 3) := by decide +kernel
theorem dX7_count_49 : decode cX7_count 49 = .ok (.ireturn, 1) := by decide +kernel
theorem dX7_count_50 : decode cX7_count 50 = .ok (.aload_n 0, 1) := by decide +kernel
theorem dX7_count_51 : decode cX7_count 51 = .ok (.getfield 7, 3) := by decide +kernel
theorem dX7_count_54 : decode cX7_count 54 = .ok (.bipush 41, 2) := by decide +kernel
theorem dX7_count_56 : decode cX7_count 56 = .ok (.iaload, 1) := by decide +kernel
theorem dX7_count_57 : decode cX7_count 57 = .ok (.ireturn, 1) := by decide +kernel
theorem dX7_count_58 : decode cX7_count 58 = .ok (.aload_n 0, 1) := by decide +kernel
theorem dX7_count_59 : decode cX7_count 59 = .ok (.getfield 32, 3) := by decide +kernel
theorem dX7_count_62 : decode cX7_count 62 = .ok (.ireturn, 1) := by decide +kernel
theorem dX7_count_63 : decode cX7_count 63 = .ok (.aload_n 0, 1) := by decide +kernel
theorem dX7_count_64 : decode cX7_count 64 = .ok (.getfield 127, 3) := by decide +kernel
theorem dX7_count_67 : decode cX7_count 67 = .ok (.ireturn, 1) := by decide +kernel
theorem dX7_count_68 : decode cX7_count 68 = .ok (.aload_n 0, 1) := by decide +kernel
theorem dX7_count_69 : decode cX7_count 69 = .ok (.getfield 7, 3) := by decide +kernel
theorem dX7_count_72 : decode cX7_count 72 = .ok (.bipush 42, 2) := by decide +kernel
theorem dX7_count_74 : decode cX7_count 74 = .ok (.iaload, 1) := by decide +kernel
theorem dX7_count_75 : decode cX7_count 75 = .ok (.ireturn, 1) := by decide +kernel
theorem dX7_count_76 : decode cX7_count 76 = .ok (.bipush (-2), 2) := by decide +kernel
theorem dX7_count_78 : decode cX7_count 78 = .ok (.ireturn, 1) := by decide +kernel
theorem dJ6_bitCount_0f7a4_0 : decode cJ6_bitCount_0f7a4 0 = .ok (.iload_n 0, 1) := by decide +kernel
theorem dJ6_bitCount_0f7a4_1 : decode cJ6_bitCount_0f7a4 1 = .ok (.iload_n 0, 1) := by decide +kernel
theorem dJ6_bitCount_0f7a4_2 : decode cJ6_bitCount_0f7a4 2 = .ok (.iconst 1, 1) := by decide +kernel
theorem dJ6_bitCount_0f7a4_3 : decode cJ6_bitCount_0f7a4 3 = .ok (.iushr, 1) := by decide +kernel
theorem dJ6_bitCount_0f7a4_4 : decode cJ6_bitCount_0f7a4 4 = .ok (.ldc_w 265, 3) := by decide +kernel
theorem dJ6_bitCount_0f7a4_7 : decode cJ6_bitCount_0f7a4 7 = .ok (.iand, 1) := by decide +kernel
theorem dJ6_bitCount_0f7a4_8 : decode cJ6_bitCount_0f7a4 8 = .ok (.isub, 1) := by decide +kernel
theorem dJ6_bitCount_0f7a4_9 : decode cJ6_bitCount_0f7a4 9 = .ok (.istore_n 0, 1) := by decide +kernel
theorem dJ6_bitCount_0f7a4_10 : decode cJ6_bitCount_0f7a4 10 = .ok (.iload_n 0, 1) := by decide +kernel
theorem dJ6_bitCount_0f7a4_11 : decode cJ6_bitCount_0f7a4 11 = .ok (.ldc_w 266, 3) := by decide +kernel
theorem dJ6_bitCount_0f7a4_14 : decode cJ6_bitCount_0f7a4 14 = .ok (.iand, 1) := by decide +kernel
theorem dJ6_bitCount_0f7a4_15 : decode cJ6_bitCount_0f7a4 15 = .ok (.iload_n 0, 1) := by decide +kernel
theorem dJ6_bitCount_0f7a4_16 : decode cJ6_bitCount_0f7a4 16 = .ok (.iconst 2, 1) := by decide +kernel
theorem dJ6_bitCount_0f7a4_17 : decode cJ6_bitCount_0f7a4 17 = .ok (.iushr, 1) := by decide +kernel
theorem dJ6_bitCount_0f7a4_18 : decode cJ6_bitCount_0f7a4 18 = .ok (.ldc_w 266, 3) := by decide +kernel
theorem dJ6_bitCount_0f7a4_21 : decode cJ6_bitCount_0f7a4 21 = .ok (.iand, 1) := by decide +kernel
theorem dJ6_bitCount_0f7a4_22 : decode cJ6_bitCount_0f7a4 22 = .ok (.iadd, 1) := by decide +kernel
theorem dJ6_bitCount_0f7a4_23 : decode cJ6_bitCount_0f7a4 23 = .ok (.istore_n 0, 1) := by decide +kernel
theorem dJ6_bitCount_0f7a4_24 : decode cJ6_bitCount_0f7a4 24 = .ok (.iload_n 0, 1) := by decide +kernel
theorem dJ6_bitCount_0f7a4_25 : decode cJ6_bitCount_0f7a4 25 = .ok (.iload_n 0, 1) := by decide +kernel
theorem dJ6_bitCount_0f7a4_26 : decode cJ6_bitCount_0f7a4 26 = .ok (.iconst 4, 1) := by decide +kernel
theorem dJ6_bitCount_0f7a4_27 : decode cJ6_bitCount_0f7a4 27 = .ok (.iushr, 1) := by decide +kernel
theorem dJ6_bitCount_0f7a4_28 : decode cJ6_bitCount_0f7a4 28 = .ok (.iadd, 1) := by decide +kernel
theorem dJ6_bitCount_0f7a4_29 : decode cJ6_bitCount_0f7a4 29 = .ok (.ldc_w 267, 3) := by decide +kernel
theorem dJ6_bitCount_0f7a4_32 : decode cJ6_bitCount_0f7a4 32 = .ok (.iand, 1) := by decide +kernel
theorem dJ6_bitCount_0f7a4_33 : decode cJ6_bitCount_0f7a4 33 = .ok (.istore_n 0, 1) := by decide +kernel
theorem dJ6_bitCount_0f7a4_34 : decode cJ6_bitCount_0f7a4 34 = .ok (.iload_n 0, 1) := by decide +kernel
theorem dJ6_bitCount_0f7a4_35 : decode cJ6_bitCount_0f7a4 35 = .ok (.iload_n 0, 1) := by decide +kernel
theorem dJ6_bitCount_0f7a4_36 : decode cJ6_bitCount_0f7a4 36 = .ok (.bipush 8, 2) := by decide +kernel
theorem dJ6_bitCount_0f7a4_38 : decode cJ6_bitCount_0f7a4 38 = .ok (.iushr, 1) := by decide +kernel
theorem dJ6_bitCount_0f7a4_39 : decode cJ6_bitCount_0f7a4 39 = .ok (.iadd, 1) := by decide +kernel
theorem dJ6_bitCount_0f7a4_40 : decode cJ6_bitCount_0f7a4 40 = .ok (.istore_n 0, 1) := by decide +kernel
theorem dJ6_bitCount_0f7a4_41 : decode cJ6_bitCount_0f7a4 41 = .ok (.iload_n 0, 1) := by decide +kernel
theorem dJ6_bitCount_0f7a4_42 : decode cJ6_bitCount_0f7a4 42 = .ok (.iload_n 0, 1) := by decide +kernel
theorem dJ6_bitCount_0f7a4_43 : decode cJ6_bitCount_0f7a4 43 = .ok (.bipush 16, 2) := by decide +kernel
theorem dJ6_bitCount_0f7a4_45 : decode cJ6_bitCount_0f7a4 45 = .ok (.iushr, 1) := by decide +kernel
theorem dJ6_bitCount_0f7a4_46 : decode cJ6_bitCount_0f7a4 46 = .ok (.iadd, 1) := by decide +kernel
theorem dJ6_bitCount_0f7a4_47 : decode cJ6_bitCount_0f7a4 47 = .ok (.istore_n 0, 1) := by decide +kernel
theorem dJ6_bitCount_0f7a4_48 : decode cJ6_bitCount_0f7a4 48 = .ok (.iload_n 0, 1) := by decide +kernel
theorem dJ6_bitCount_0f7a4_49 : decode cJ6_bitCount_0f7a4 49 = .ok (.bipush 63, 2) := by decide +kernel
theorem dJ6_bitCount_0f7a4_51 : decode cJ6_bitCount_0f7a4 51 = .ok (.iand, 1) := by decide +kernel
theorem dJ6_bitCount_0f7a4_52 : decode cJ6_bitCount_0f7a4 52 = .ok (.ireturn, 1) := by decide +kernel
theorem dJ9_floorMod_7cf53_0 : decode cJ9_floorMod_7cf53 0 = .ok (.iload_n 0, 1) := by decide +kernel
theorem dJ9_floorMod_7cf53_1 : decode cJ9_floorMod_7cf53 1 = .ok (.iload_n 1, 1) := by decide +kernel
theorem dJ9_floorMod_7cf53_2 : decode cJ9_floorMod_7cf53 2 = .ok (.irem, 1) := by decide +kernel
theorem dJ9_floorMod_7cf53_3 : decode cJ9_floorMod_7cf53 3 = .ok (.istore_n 2, 1) := by decide +kernel
theorem dJ9_floorMod_7cf53_4 : decode cJ9_floorMod_7cf53 4 = .ok (.iload_n 0, 1) := by decide +kernel
theorem dJ9_floorMod_7cf53_5 : decode cJ9_floorMod_7cf53 5 = .ok (.iload_n 1, 1) := by decide +kernel
theorem dJ9_floorMod_7cf53_6 : decode cJ9_floorMod_7cf53 6 = .ok (.ixor, 1) := by decide +kernel
theorem dJ9_floorMod_7cf53_7 : decode cJ9_floorMod_7cf53 7 = .ok (.ifCond .ge 11, 3) := by decide +kernel
theorem dJ9_floorMod_7cf53_10 : decode cJ9_floorMod_7cf53 10 = .ok (.iload_n 2, 1) := by decide +kernel
theorem dJ9_floorMod_7cf53_11 : decode cJ9_floorMod_7cf53 11 = .ok (.ifCond .eq 7, 3) := by decide +kernel
theorem dJ9_floorMod_7cf53_14 : decode cJ9_floorMod_7cf53 14 = .ok (.iload_n 2, 1) := by decide +kernel
theorem dJ9_floorMod_7cf53_15 : decode cJ9_floorMod_7cf53 15 = .ok (.iload_n 1, 1) := by decide +kernel
theorem dJ9_floorMod_7cf53_16 : decode cJ9_floorMod_7cf53 16 = .ok (.iadd, 1) := by decide +kernel
theorem dJ9_floorMod_7cf53_17 : decode cJ9_floorMod_7cf53 17 = .ok (.ireturn, 1) := by decide +kernel
theorem dJ9_floorMod_7cf53_18 : decode cJ9_floorMod_7cf53 18 = .ok (.iload_n 2, 1) := by decide +kernel
theorem dJ9_floorMod_7cf53_19 : decode cJ9_floorMod_7cf53 19 = .ok (.ireturn, 1) := by decide +kernel
theorem dJ9_abs_0f7a4_0 : decode cJ9_abs_0f7a4 0 = .ok (.iload_n 0, 1) := by decide +kernel
theorem dJ9_abs_0f7a4_1 : decode cJ9_abs_0f7a4 1 = .ok (.ifCond .ge 8, 3) := by decide +kernel
theorem dJ9_abs_0f7a4_4 : decode cJ9_abs_0f7a4 4 = .ok (.iload_n 0, 1) := by decide +kernel
theorem dJ9_abs_0f7a4_5 : decode cJ9_abs_0f7a4 5 = .ok (.ineg, 1) := by decide +kernel
theorem dJ9_abs_0f7a4_6 : decode cJ9_abs_0f7a4 6 = .ok (.goto 4, 3) := by decide +kernel
theorem dJ9_abs_0f7a4_9 : decode cJ9_abs_0f7a4 9 = .ok (.iload_n 0, 1) := by decide +kernel
theorem dJ9_abs_0f7a4_10 : decode cJ9_abs_0f7a4 10 = .ok (.ireturn, 1) := by decide +kernel
theorem dJ9_max_7cf53_0 : decode cJ9_max_7cf53 0 = .ok (.iload_n 0, 1) := by decide +kernel
theorem dJ9_max_7cf53_1 : decode cJ9_max_7cf53 1 = .ok (.iload_n 1, 1) := by decide +kernel
theorem dJ9_max_7cf53_2 : decode cJ9_max_7cf53 2 = .ok (.if_icmp .lt 7, 3) := by decide +kernel
theorem dJ9_max_7cf53_5 : decode cJ9_max_7cf53 5 = .ok (.iload_n 0, 1) := by decide +kernel
theorem dJ9_max_7cf53_6 : decode cJ9_max_7cf53 6 = .ok (.goto 4, 3) := by decide +kernel
theorem dJ9_max_7cf53_9 : decode cJ9_max_7cf53 9 = .ok (.iload_n 1, 1) := by decide +kernel
theorem dJ9_max_7cf53_10 : decode cJ9_max_7cf53 10 = .ok (.ireturn, 1) := by decide +kernel
theorem dJ9_min_7cf53_0 : decode cJ9_min_7cf53 0 = .ok (.iload_n 0, 1) := by decide +kernel
theorem dJ9_min_7cf53_1 : decode cJ9_min_7cf53 1 = .ok (.iload_n 1, 1) := by decide +kernel
theorem dJ9_min_7cf53_2 : decode cJ9_min_7cf53 2 = .ok (.if_icmp .gt 7, 3) := by decide +kernel
theorem dJ9_min_7cf53_5 : decode cJ9_min_7cf53 5 = .ok (.iload_n 0, 1) := by decide +kernel
theorem dJ9_min_7cf53_6 : decode cJ9_min_7cf53 6 = .ok (.goto 4, 3) := by decide +kernel
theorem dJ9_min_7cf53_9 : decode cJ9_min_7cf53 9 = .ok (.iload_n 1, 1) := by decide +kernel
theorem dJ9_min_7cf53_10 : decode cJ9_min_7cf53 10 = .ok (.ireturn, 1) := by decide +kernel
theorem dJ0_length_8abf5_0 : decode cJ0_length_8abf5 0 = .ok (.aload_n 0, 1) := by decide +kernel
theorem dJ0_length_8abf5_1 : decode cJ0_length_8abf5 1 = .ok (.getfield 9, 3) := by decide +kernel
theorem dJ0_length_8abf5_4 : decode cJ0_length_8abf5 4 = .ok (.arraylength, 1) := by decide +kernel
theorem dJ0_length_8abf5_5 : decode cJ0_length_8abf5 5 = .ok (.aload_n 0, 1) := by decide +kernel
theorem dJ0_length_8abf5_6 : decode cJ0_length_8abf5 6 = .ok (.invokevirtual 335, 3) := by decide +kernel
theorem dJ0_length_8abf5_9 : decode cJ0_length_8abf5 9 = .ok (.ishr, 1) := by decide +kernel
theorem dJ0_length_8abf5_10 : decode cJ0_length_8abf5 10 = .ok (.ireturn, 1) := by decide +kernel
theorem dJ0_charAt_5068e_0 : decode cJ0_charAt_5068e 0 = .ok (.aload_n 0, 1) := by decide +kernel
theorem dJ0_charAt_5068e_1 : decode cJ0_charAt_5068e 1 = .ok (.invokevirtual 492, 3) := by decide +kernel
theorem dJ0_charAt_5068e_4 : decode cJ0_charAt_5068e 4 = .ok (.ifCond .eq 12, 3) := by decide +kernel
theorem dJ0_charAt_5068e_7 : decode cJ0_charAt_5068e 7 = .ok (.aload_n 0, 1) := by decide +kernel
theorem dJ0_charAt_5068e_8 : decode cJ0_charAt_5068e 8 = .ok (.getfield 9, 3) := by decide +kernel
theorem dJ0_charAt_5068e_11 : decode cJ0_charAt_5068e 11 = .ok (.iload_n 1, 1) := by decide +kernel
theorem dJ0_charAt_5068e_12 : decode cJ0_charAt_5068e 12 = .ok (.invokestatic 495, 3) := by decide +kernel
theorem dJ0_charAt_5068e_15 : decode cJ0_charAt_5068e 15 = .ok (.ireturn, 1) := by decide +kernel
theorem dJ0_charAt_5068e_16 : decode cJ0_charAt_5068e 16 = .ok (.aload_n 0, 1) := by decide +kernel
theorem dJ0_charAt_5068e_17 : decode cJ0_charAt_5068e 17 = .ok (.getfield 9, 3) := by decide +kernel
theorem dJ0_charAt_5068e_20 : decode cJ0_charAt_5068e 20 = .ok (.iload_n 1, 1) := by decide +kernel
theorem dJ0_charAt_5068e_21 : decode cJ0_charAt_5068e 21 = .ok (.invokestatic 498, 3) := by decide +kernel
theorem dJ0_charAt_5068e_24 : decode cJ0_charAt_5068e 24 = .ok (.ireturn, 1) := by decide +kernel
theorem dJ0_indexOf_0f7a4_0 : decode cJ0_indexOf_0f7a4 0 = .ok (.aload_n 0, 1) := by decide +kernel
theorem dJ0_indexOf_0f7a4_1 : decode cJ0_indexOf_0f7a4 1 = .ok (.iload_n 1, 1) := by decide +kernel
theorem dJ0_indexOf_0f7a4_2 : decode cJ0_indexOf_0f7a4 2 = .ok (.iconst 0, 1) := by decide +kernel
theorem dJ0_indexOf_0f7a4_3 : decode cJ0_indexOf_0f7a4 3 = .ok (.invokevirtual 633, 3) := by decide +kernel
theorem dJ0_indexOf_0f7a4_6 : decode cJ0_indexOf_0f7a4 6 = .ok (.ireturn, 1) := by decide +kernel
theorem dJ0_indexOf_7cf53_0 : decode cJ0_indexOf_7cf53 0 = .ok (.aload_n 0, 1) := by decide +kernel
theorem dJ0_indexOf_7cf53_1 : decode cJ0_indexOf_7cf53 1 = .ok (.invokevirtual 492, 3) := by decide +kernel
theorem dJ0_indexOf_7cf53_4 : decode cJ0_indexOf_7cf53 4 = .ok (.ifCond .eq 19, 3) := by decide +kernel
theorem dJ0_indexOf_7cf53_7 : decode cJ0_indexOf_7cf53 7 = .ok (.aload_n 0, 1) := by decide +kernel
theorem dJ0_indexOf_7cf53_8 : decode cJ0_indexOf_7cf53 8 = .ok (.getfield 9, 3) := by decide +kernel
theorem dJ0_indexOf_7cf53_11 : decode cJ0_indexOf_7cf53 11 = .ok (.iload_n 1, 1) := by decide +kernel
theorem dJ0_indexOf_7cf53_12 : decode cJ0_indexOf_7cf53 12 = .ok (.iload_n 2, 1) := by decide +kernel
theorem dJ0_indexOf_7cf53_13 : decode cJ0_indexOf_7cf53 13 = .ok (.aload_n 0, 1) := by decide +kernel
theorem dJ0_indexOf_7cf53_14 : decode cJ0_indexOf_7cf53 14 = .ok (.invokevirtual 505, 3) := by decide +kernel
theorem dJ0_indexOf_7cf53_17 : decode cJ0_indexOf_7cf53 17 = .ok (.invokestatic 637, 3) := by decide +kernel
theorem dJ0_indexOf_7cf53_20 : decode cJ0_indexOf_7cf53 20 = .ok (.goto 16, 3) := by decide +kernel
theorem dJ0_indexOf_7cf53_23 : decode cJ0_indexOf_7cf53 23 = .ok (.aload_n 0, 1) := by decide +kernel
theorem dJ0_indexOf_7cf53_24 : decode cJ0_indexOf_7cf53 24 = .ok (.getfield 9, 3) := by decide +kernel
theorem dJ0_indexOf_7cf53_27 : decode cJ0_indexOf_7cf53 27 = .ok (.iload_n 1, 1) := by decide +kernel
theorem dJ0_indexOf_7cf53_28 : decode cJ0_indexOf_7cf53 28 = .ok (.iload_n 2, 1) := by decide +kernel
theorem dJ0_indexOf_7cf53_29 : decode cJ0_indexOf_7cf53 29 = .ok (.aload_n 0, 1) := by decide +kernel
theorem dJ0_indexOf_7cf53_30 : decode cJ0_indexOf_7cf53 30 = .ok (.invokevirtual 505, 3) := by decide +kernel
theorem dJ0_indexOf_7cf53_33 : decode cJ0_indexOf_7cf53 33 = .ok (.invokestatic 640, 3) := by decide +kernel
theorem dJ0_indexOf_7cf53_36 : decode cJ0_indexOf_7cf53 36 = .ok (.ireturn, 1) := by decide +kernel
theorem dJ0_coder_7d493_0 : decode cJ0_coder_7d493 0 = .ok (.getstatic 38, 3) := by decide +kernel
theorem dJ0_coder_7d493_3 : decode cJ0_coder_7d493 3 = .ok (.ifCond .eq 10, 3) := by decide +kernel
theorem dJ0_coder_7d493_6 : decode cJ0_coder_7d493 6 = .ok (.aload_n 0, 1) := by decide +kernel
theorem dJ0_coder_7d493_7 : decode cJ0_coder_7d493 7 = .ok (.getfield 15, 3) := by decide +kernel
theorem dJ0_coder_7d493_10 : decode cJ0_coder_7d493 10 = .ok (.goto 4, 3) := by decide +kernel
theorem dJ0_coder_7d493_13 : decode cJ0_coder_7d493 13 = .ok (.iconst 1, 1) := by decide +kernel
theorem dJ0_coder_7d493_14 : decode cJ0_coder_7d493 14 = .ok (.ireturn, 1) := by decide +kernel
theorem dJ0_isLatin1_aae02_0 : decode cJ0_isLatin1_aae02 0 = .ok (.getstatic 38, 3) := by decide +kernel
theorem dJ0_isLatin1_aae02_3 : decode cJ0_isLatin1_aae02 3 = .ok (.ifCond .eq 14, 3) := by decide +kernel
theorem dJ0_isLatin1_aae02_6 : decode cJ0_isLatin1_aae02 6 = .ok (.aload_n 0, 1) := by decide +kernel
theorem dJ0_isLatin1_aae02_7 : decode cJ0_isLatin1_aae02 7 = .ok (.getfield 15, 3) := by decide +kernel
theorem dJ0_isLatin1_aae02_10 : decode cJ0_isLatin1_aae02 10 = .ok (.ifCond .ne 7, 3) := by decide +kernel
theorem dJ0_isLatin1_aae02_13 : decode cJ0_isLatin1_aae02 13 = .ok (.iconst 1, 1) := by decide +kernel
theorem dJ0_isLatin1_aae02_14 : decode cJ0_isLatin1_aae02 14 = .ok (.goto 4, 3) := by decide +kernel
theorem dJ0_isLatin1_aae02_17 : decode cJ0_isLatin1_aae02 17 = .ok (.iconst 0, 1) := by decide +kernel
theorem dJ0_isLatin1_aae02_18 : decode cJ0_isLatin1_aae02 18 = .ok (.ireturn, 1) := by decide +kernel
theorem dJ0_checkIndex_df160_0 : decode cJ0_checkIndex_df160 0 = .ok (.iload_n 0, 1) := by decide +kernel
theorem dJ0_checkIndex_df160_1 : decode cJ0_checkIndex_df160 1 = .ok (.iload_n 1, 1) := by decide +kernel
theorem dJ0_checkIndex_df160_2 : decode cJ0_checkIndex_df160 2 = .ok (.getstatic 1053, 3) := by decide +kernel
theorem dJ0_checkIndex_df160_5 : decode cJ0_checkIndex_df160 5 = .ok (.invokestatic 1059, 3) := by decide +kernel
theorem dJ0_checkIndex_df160_8 : decode cJ0_checkIndex_df160 8 = .ok (.pop, 1) := by decide +kernel
theorem dJ0_checkIndex_df160_9 : decode cJ0_checkIndex_df160 9 = .ok (.return_, 1) := by decide +kernel
theorem dJ1_charAt_3b067_0 : decode cJ1_charAt_3b067 0 = .ok (.iload_n 1, 1) := by decide +kernel
theorem dJ1_charAt_3b067_1 : decode cJ1_charAt_3b067 1 = .ok (.aload_n 0, 1) := by decide +kernel
theorem dJ1_charAt_3b067_2 : decode cJ1_charAt_3b067 2 = .ok (.arraylength, 1) := by decide +kernel
theorem dJ1_charAt_3b067_3 : decode cJ1_charAt_3b067 3 = .ok (.invokestatic 9, 3) := by decide +kernel
theorem dJ1_charAt_3b067_6 : decode cJ1_charAt_3b067 6 = .ok (.aload_n 0, 1) := by decide +kernel
theorem dJ1_charAt_3b067_7 : decode cJ1_charAt_3b067 7 = .ok (.iload_n 1, 1) := by decide +kernel
theorem dJ1_charAt_3b067_8 : decode cJ1_charAt_3b067 8 = .ok (.baload, 1) := by decide +kernel
theorem dJ1_charAt_3b067_9 : decode cJ1_charAt_3b067 9 = .ok (.sipush 255, 3) := by decide +kernel
theorem dJ1_charAt_3b067_12 : decode cJ1_charAt_3b067 12 = .ok (.iand, 1) := by decide +kernel
theorem dJ1_charAt_3b067_13 : decode cJ1_charAt_3b067 13 = .ok (.i2c, 1) := by decide +kernel
theorem dJ1_charAt_3b067_14 : decode cJ1_charAt_3b067 14 = .ok (.ireturn, 1) := by decide +kernel
theorem dJ1_canEncode_9a6ad_0 : decode cJ1_canEncode_9a6ad 0 = .ok (.iload_n 0, 1) := by decide +kernel
theorem dJ1_canEncode_9a6ad_1 : decode cJ1_canEncode_9a6ad 1 = .ok (.ifCond .lt 14, 3) := by decide +kernel
theorem dJ1_canEncode_9a6ad_4 : decode cJ1_canEncode_9a6ad 4 = .ok (.iload_n 0, 1) := by decide +kernel
theorem dJ1_canEncode_9a6ad_5 : decode cJ1_canEncode_9a6ad 5 = .ok (.sipush 255, 3) := by decide +kernel
theorem dJ1_canEncode_9a6ad_8 : decode cJ1_canEncode_9a6ad 8 = .ok (.if_icmp .gt 7, 3) := by decide +kernel
theorem dJ1_canEncode_9a6ad_11 : decode cJ1_canEncode_9a6ad 11 = .ok (.iconst 1, 1) := by decide +kernel
theorem dJ1_canEncode_9a6ad_12 : decode cJ1_canEncode_9a6ad 12 = .ok (.goto 4, 3) := by decide +kernel
theorem dJ1_canEncode_9a6ad_15 : decode cJ1_canEncode_9a6ad 15 = .ok (.iconst 0, 1) := by decide +kernel
theorem dJ1_canEncode_9a6ad_16 : decode cJ1_canEncode_9a6ad 16 = .ok (.ireturn, 1) := by decide +kernel
theorem dJ1_indexOf_4cfef_0 : decode cJ1_indexOf_4cfef 0 = .ok (.iload_n 1, 1) := by decide +kernel
theorem dJ1_indexOf_4cfef_1 : decode cJ1_indexOf_4cfef 1 = .ok (.invokestatic 88, 3) := by decide +kernel
theorem dJ1_indexOf_4cfef_4 : decode cJ1_indexOf_4cfef 4 = .ok (.ifCond .ne 5, 3) := by decide +kernel
theorem dJ1_indexOf_4cfef_7 : decode cJ1_indexOf_4cfef 7 = .ok (.iconst (-1), 1) := by decide +kernel
theorem dJ1_indexOf_4cfef_8 : decode cJ1_indexOf_4cfef 8 = .ok (.ireturn, 1) := by decide +kernel
theorem dJ1_indexOf_4cfef_9 : decode cJ1_indexOf_4cfef 9 = .ok (.iload_n 2, 1) := by decide +kernel
theorem dJ1_indexOf_4cfef_10 : decode cJ1_indexOf_4cfef 10 = .ok (.iconst 0, 1) := by decide +kernel
theorem dJ1_indexOf_4cfef_11 : decode cJ1_indexOf_4cfef 11 = .ok (.invokestatic 92, 3) := by decide +kernel
theorem dJ1_indexOf_4cfef_14 : decode cJ1_indexOf_4cfef 14 = .ok (.istore_n 2, 1) := by decide +kernel
theorem dJ1_indexOf_4cfef_15 : decode cJ1_indexOf_4cfef 15 = .ok (.iload_n 3, 1) := by decide +kernel
theorem dJ1_indexOf_4cfef_16 : decode cJ1_indexOf_4cfef 16 = .ok (.aload_n 0, 1) := by decide +kernel
theorem dJ1_indexOf_4cfef_17 : decode cJ1_indexOf_4cfef 17 = .ok (.arraylength, 1) := by decide +kernel
theorem dJ1_indexOf_4cfef_18 : decode cJ1_indexOf_4cfef 18 = .ok (.invokestatic 38, 3) := by decide +kernel
theorem dJ1_indexOf_4cfef_21 : decode cJ1_indexOf_4cfef 21 = .ok (.istore_n 3, 1) := by decide +kernel
theorem dJ1_indexOf_4cfef_22 : decode cJ1_indexOf_4cfef 22 = .ok (.iload_n 2, 1) := by decide +kernel
theorem dJ1_indexOf_4cfef_23 : decode cJ1_indexOf_4cfef 23 = .ok (.iload_n 3, 1) := by decide +kernel
theorem dJ1_indexOf_4cfef_24 : decode cJ1_indexOf_4cfef 24 = .ok (.if_icmp .lt 5, 3) := by decide +kernel
theorem dJ1_indexOf_4cfef_27 : decode cJ1_indexOf_4cfef 27 = .ok (.iconst (-1), 1) := by decide +kernel
theorem dJ1_indexOf_4cfef_28 : decode cJ1_indexOf_4cfef 28 = .ok (.ireturn, 1) := by decide +kernel
theorem dJ1_indexOf_4cfef_29 : decode cJ1_indexOf_4cfef 29 = .ok (.aload_n 0, 1) := by decide +kernel
theorem dJ1_indexOf_4cfef_30 : decode cJ1_indexOf_4cfef 30 = .ok (.iload_n 1, 1) := by decide +kernel
theorem dJ1_indexOf_4cfef_31 : decode cJ1_indexOf_4cfef 31 = .ok (.iload_n 2, 1) := by decide +kernel
theorem dJ1_indexOf_4cfef_32 : decode cJ1_indexOf_4cfef 32 = .ok (.iload_n 3, 1) := by decide +kernel
theorem dJ1_indexOf_4cfef_33 : decode cJ1_indexOf_4cfef 33 = .ok (.invokestatic 95, 3) := by decide +kernel
theorem dJ1_indexOf_4cfef_36 : decode cJ1_indexOf_4cfef 36 = .ok (.ireturn, 1) := by decide +kernel
theorem dJ1_indexOfChar_4cfef_0 : decode cJ1_indexOfChar_4cfef 0 = .ok (.iload_n 1, 1) := by decide +kernel
theorem dJ1_indexOfChar_4cfef_1 : decode cJ1_indexOfChar_4cfef 1 = .ok (.i2b, 1) := by decide +kernel
theorem dJ1_indexOfChar_4cfef_2 : decode cJ1_indexOfChar_4cfef 2 = .ok (.istore 4, 2) := by decide +kernel
theorem dJ1_indexOfChar_4cfef_4 : decode cJ1_indexOfChar_4cfef 4 = .ok (.iload_n 2, 1) := by decide +kernel
theorem dJ1_indexOfChar_4cfef_5 : decode cJ1_indexOfChar_4cfef 5 = .ok (.istore 5, 2) := by decide +kernel
theorem dJ1_indexOfChar_4cfef_7 : decode cJ1_indexOfChar_4cfef 7 = .ok (.iload 5, 2) := by decide +kernel
theorem dJ1_indexOfChar_4cfef_9 : decode cJ1_indexOfChar_4cfef 9 = .ok (.iload_n 3, 1) := by decide +kernel
theorem dJ1_indexOfChar_4cfef_10 : decode cJ1_indexOfChar_4cfef 10 = .ok (.if_icmp .ge 21, 3) := by decide +kernel
theorem dJ1_indexOfChar_4cfef_13 : decode cJ1_indexOfChar_4cfef 13 = .ok (.aload_n 0, 1) := by decide +kernel
theorem dJ1_indexOfChar_4cfef_14 : decode cJ1_indexOfChar_4cfef 14 = .ok (.iload 5, 2) := by decide +kernel
theorem dJ1_indexOfChar_4cfef_16 : decode cJ1_indexOfChar_4cfef 16 = .ok (.baload, 1) := by decide +kernel
theorem dJ1_indexOfChar_4cfef_17 : decode cJ1_indexOfChar_4cfef 17 = .ok (.iload 4, 2) := by decide +kernel
theorem dJ1_indexOfChar_4cfef_19 : decode cJ1_indexOfChar_4cfef 19 = .ok (.if_icmp .ne 6, 3) := by decide +kernel
theorem dJ1_indexOfChar_4cfef_22 : decode cJ1_indexOfChar_4cfef 22 = .ok (.iload 5, 2) := by decide +kernel
theorem dJ1_indexOfChar_4cfef_24 : decode cJ1_indexOfChar_4cfef 24 = .ok (.ireturn, 1) := by decide +kernel
theorem dJ1_indexOfChar_4cfef_25 : decode cJ1_indexOfChar_4cfef 25 = .ok (.iinc 5 1, 3) := by decide +kernel
theorem dJ1_indexOfChar_4cfef_28 : decode cJ1_indexOfChar_4cfef 28 = .ok (.goto (-21), 3) := by decide +kernel
theorem dJ1_indexOfChar_4cfef_31 : decode cJ1_indexOfChar_4cfef 31 = .ok (.iconst (-1), 1) := by decide +kernel
theorem dJ1_indexOfChar_4cfef_32 : decode cJ1_indexOfChar_4cfef 32 = .ok (.ireturn, 1) := by decide +kernel
theorem dJ7_fill_53178_0 : decode cJ7_fill_53178 0 = .ok (.iconst 0, 1) := by decide +kernel
theorem dJ7_fill_53178_1 : decode cJ7_fill_53178 1 = .ok (.istore_n 2, 1) := by decide +kernel
theorem dJ7_fill_53178_2 : decode cJ7_fill_53178 2 = .ok (.aload_n 0, 1) := by decide +kernel
theorem dJ7_fill_53178_3 : decode cJ7_fill_53178 3 = .ok (.arraylength, 1) := by decide +kernel
theorem dJ7_fill_53178_4 : decode cJ7_fill_53178 4 = .ok (.istore_n 3, 1) := by decide +kernel
theorem dJ7_fill_53178_5 : decode cJ7_fill_53178 5 = .ok (.iload_n 2, 1) := by decide +kernel
theorem dJ7_fill_53178_6 : decode cJ7_fill_53178 6 = .ok (.iload_n 3, 1) := by decide +kernel
theorem dJ7_fill_53178_7 : decode cJ7_fill_53178 7 = .ok (.if_icmp .ge 13, 3) := by decide +kernel
theorem dJ7_fill_53178_10 : decode cJ7_fill_53178 10 = .ok (.aload_n 0, 1) := by decide +kernel
theorem dJ7_fill_53178_11 : decode cJ7_fill_53178 11 = .ok (.iload_n 2, 1) := by decide +kernel
theorem dJ7_fill_53178_12 : decode cJ7_fill_53178 12 = .ok (.iload_n 1, 1) := by decide +kernel
theorem dJ7_fill_53178_13 : decode cJ7_fill_53178 13 = .ok (.iastore, 1) := by decide +kernel
theorem dJ7_fill_53178_14 : decode cJ7_fill_53178 14 = .ok (.iinc 2 1, 3) := by decide +kernel
theorem dJ7_fill_53178_17 : decode cJ7_fill_53178 17 = .ok (.goto (-12), 3) := by decide +kernel
theorem dJ7_fill_53178_20 : decode cJ7_fill_53178 20 = .ok (.return_, 1) := by decide +kernel
theorem dJ7_copyOf_59c91_0 : decode cJ7_copyOf_59c91 0 = .ok (.iload_n 1, 1) := by decide +kernel
theorem dJ7_copyOf_59c91_1 : decode cJ7_copyOf_59c91 1 = .ok (.aload_n 0, 1) := by decide +kernel
theorem dJ7_copyOf_59c91_2 : decode cJ7_copyOf_59c91 2 = .ok (.arraylength, 1) := by decide +kernel
theorem dJ7_copyOf_59c91_3 : decode cJ7_copyOf_59c91 3 = .ok (.if_icmp .ne 11, 3) := by decide +kernel
theorem dJ7_copyOf_59c91_6 : decode cJ7_copyOf_59c91 6 = .ok (.aload_n 0, 1) := by decide +kernel
theorem dJ7_copyOf_59c91_7 : decode cJ7_copyOf_59c91 7 = .ok (.invokevirtual 316, 3) := by decide +kernel
theorem dJ7_copyOf_59c91_10 : decode cJ7_copyOf_59c91 10 = .ok (.checkcast 317, 3) := by decide +kernel
theorem dJ7_copyOf_59c91_13 : decode cJ7_copyOf_59c91 13 = .ok (.areturn, 1) := by decide +kernel
theorem dJ7_copyOf_59c91_14 : decode cJ7_copyOf_59c91 14 = .ok (.iload_n 1, 1) := by decide +kernel
theorem dJ7_copyOf_59c91_15 : decode cJ7_copyOf_59c91 15 = .ok (.newarray .int, 2) := by decide +kernel
theorem dJ7_copyOf_59c91_17 : decode cJ7_copyOf_59c91 17 = .ok (.astore_n 2, 1) := by decide +kernel
theorem dJ7_copyOf_59c91_18 : decode cJ7_copyOf_59c91 18 = .ok (.aload_n 0, 1) := by decide +kernel
theorem dJ7_copyOf_59c91_19 : decode cJ7_copyOf_59c91 19 = .ok (.iconst 0, 1) := by decide +kernel
theorem dJ7_copyOf_59c91_20 : decode cJ7_copyOf_59c91 20 = .ok (.aload_n 2, 1) := by decide +kernel
theorem dJ7_copyOf_59c91_21 : decode cJ7_copyOf_59c91 21 = .ok (.iconst 0, 1) := by decide +kernel
theorem dJ7_copyOf_59c91_22 : decode cJ7_copyOf_59c91 22 = .ok (.aload_n 0, 1) := by decide +kernel
theorem dJ7_copyOf_59c91_23 : decode cJ7_copyOf_59c91 23 = .ok (.arraylength, 1) := by decide +kernel
theorem dJ7_copyOf_59c91_24 : decode cJ7_copyOf_59c91 24 = .ok (.iload_n 1, 1) := by decide +kernel
theorem dJ7_copyOf_59c91_25 : decode cJ7_copyOf_59c91 25 = .ok (.invokestatic 304, 3) := by decide +kernel
theorem dJ7_copyOf_59c91_28 : decode cJ7_copyOf_59c91 28 = .ok (.invokestatic 150, 3) := by decide +kernel
theorem dJ7_copyOf_59c91_31 : decode cJ7_copyOf_59c91 31 = .ok (.aload_n 2, 1) := by decide +kernel
theorem dJ7_copyOf_59c91_32 : decode cJ7_copyOf_59c91 32 = .ok (.areturn, 1) := by decide +kernel
theorem dJ3_checkIndex_8e157_0 : decode cJ3_checkIndex_8e157 0 = .ok (.iload_n 0, 1) := by decide +kernel
theorem dJ3_checkIndex_8e157_1 : decode cJ3_checkIndex_8e157 1 = .ok (.ifCond .lt 8, 3) := by decide +kernel
theorem dJ3_checkIndex_8e157_4 : decode cJ3_checkIndex_8e157 4 = .ok (.iload_n 0, 1) := by decide +kernel
theorem dJ3_checkIndex_8e157_5 : decode cJ3_checkIndex_8e157 5 = .ok (.iload_n 1, 1) := by decide +kernel
theorem dJ3_checkIndex_8e157_6 : decode cJ3_checkIndex_8e157 6 = .ok (.if_icmp .lt 10, 3) := by decide +kernel
theorem dJ3_checkIndex_8e157_9 : decode cJ3_checkIndex_8e157 9 = .ok (.aload_n 2, 1) := by decide +kernel
theorem dJ3_checkIndex_8e157_10 : decode cJ3_checkIndex_8e157 10 = .ok (.iload_n 0, 1) := by decide +kernel
theorem dJ3_checkIndex_8e157_11 : decode cJ3_checkIndex_8e157 11 = .ok (.iload_n 1, 1) := by decide +kernel
theorem dJ3_checkIndex_8e157_12 : decode cJ3_checkIndex_8e157 12 = .ok (.invokestatic 95, 3) := by decide +kernel
theorem dJ3_checkIndex_8e157_15 : decode cJ3_checkIndex_8e157 15 = .ok (.athrow, 1) := by decide +kernel
theorem dJ3_checkIndex_8e157_16 : decode cJ3_checkIndex_8e157 16 = .ok (.iload_n 0, 1) := by decide +kernel
theorem dJ3_checkIndex_8e157_17 : decode cJ3_checkIndex_8e157 17 = .ok (.ireturn, 1) := by decide +kernel
theorem dL_law_0 : decode code 0 = .ok (.new 7, 3) := by decide +kernel
theorem dL_law_3 : decode code 3 = .ok (.dup, 1) := by decide +kernel
theorem dL_law_4 : decode code 4 = .ok (.invokespecial 9, 3) := by decide +kernel
theorem dL_law_7 : decode code 7 = .ok (.astore_n 1, 1) := by decide +kernel
theorem dL_law_8 : decode code 8 = .ok (.new 10, 3) := by decide +kernel
theorem dL_law_11 : decode code 11 = .ok (.dup, 1) := by decide +kernel
theorem dL_law_12 : decode code 12 = .ok (.invokespecial 12, 3) := by decide +kernel
theorem dL_law_15 : decode code 15 = .ok (.astore_n 2, 1) := by decide +kernel
theorem dL_law_16 : decode code 16 = .ok (.iconst 0, 1) := by decide +kernel
theorem dL_law_17 : decode code 17 = .ok (.istore_n 3, 1) := by decide +kernel
theorem dL_law_18 : decode code 18 = .ok (.iload_n 3, 1) := by decide +kernel
theorem dL_law_19 : decode code 19 = .ok (.aload_n 0, 1) := by decide +kernel
theorem dL_law_20 : decode code 20 = .ok (.arraylength, 1) := by decide +kernel
theorem dL_law_21 : decode code 21 = .ok (.bipush 6, 2) := by decide +kernel
theorem dL_law_23 : decode code 23 = .ok (.isub, 1) := by decide +kernel
theorem dL_law_24 : decode code 24 = .ok (.if_icmp .gt 1085, 3) := by decide +kernel
theorem dL_law_27 : decode code 27 = .ok (.aload_n 0, 1) := by decide +kernel
theorem dL_law_28 : decode code 28 = .ok (.iload_n 3, 1) := by decide +kernel
theorem dL_law_29 : decode code 29 = .ok (.iaload, 1) := by decide +kernel
theorem dL_law_30 : decode code 30 = .ok (.bipush 31, 2) := by decide +kernel
theorem dL_law_32 : decode code 32 = .ok (.iand, 1) := by decide +kernel
theorem dL_law_33 : decode code 33 = .ok (.tableswitch 1070 0 28 #[131, 174, 227, 260, 283, 306, 319, 342, 355, 398, 421, 454, 477, 500, 533, 556, 589, 613, 656, 699, 732, 786, 799, 812, 835, 878, 921, 984, 1037], 131) := by decide +kernel
theorem dL_law_164 : decode code 164 = .ok (.aload_n 1, 1) := by decide +kernel
theorem dL_law_165 : decode code 165 = .ok (.aload_n 0, 1) := by decide +kernel
theorem dL_law_166 : decode code 166 = .ok (.iload_n 3, 1) := by decide +kernel
theorem dL_law_167 : decode code 167 = .ok (.iconst 1, 1) := by decide +kernel
theorem dL_law_168 : decode code 168 = .ok (.iadd, 1) := by decide +kernel
theorem dL_law_169 : decode code 169 = .ok (.iaload, 1) := by decide +kernel
theorem dL_law_170 : decode code 170 = .ok (.aload_n 0, 1) := by decide +kernel
theorem dL_law_171 : decode code 171 = .ok (.iload_n 3, 1) := by decide +kernel
theorem dL_law_172 : decode code 172 = .ok (.iconst 2, 1) := by decide +kernel
theorem dL_law_173 : decode code 173 = .ok (.iadd, 1) := by decide +kernel
theorem dL_law_174 : decode code 174 = .ok (.iaload, 1) := by decide +kernel
theorem dL_law_175 : decode code 175 = .ok (.aload_n 0, 1) := by decide +kernel
theorem dL_law_176 : decode code 176 = .ok (.iload_n 3, 1) := by decide +kernel
theorem dL_law_177 : decode code 177 = .ok (.iconst 3, 1) := by decide +kernel
theorem dL_law_178 : decode code 178 = .ok (.iadd, 1) := by decide +kernel
theorem dL_law_179 : decode code 179 = .ok (.iaload, 1) := by decide +kernel
theorem dL_law_180 : decode code 180 = .ok (.invokevirtual 13, 3) := by decide +kernel
theorem dL_law_183 : decode code 183 = .ok (.aload_n 2, 1) := by decide +kernel
theorem dL_law_184 : decode code 184 = .ok (.aload_n 0, 1) := by decide +kernel
theorem dL_law_185 : decode code 185 = .ok (.iload_n 3, 1) := by decide +kernel
theorem dL_law_186 : decode code 186 = .ok (.iconst 1, 1) := by decide +kernel
theorem dL_law_187 : decode code 187 = .ok (.iadd, 1) := by decide +kernel
theorem dL_law_188 : decode code 188 = .ok (.iaload, 1) := by decide +kernel
theorem dL_law_189 : decode code 189 = .ok (.aload_n 0, 1) := by decide +kernel
theorem dL_law_190 : decode code 190 = .ok (.iload_n 3, 1) := by decide +kernel
theorem dL_law_191 : decode code 191 = .ok (.iconst 2, 1) := by decide +kernel
theorem dL_law_192 : decode code 192 = .ok (.iadd, 1) := by decide +kernel
theorem dL_law_193 : decode code 193 = .ok (.iaload, 1) := by decide +kernel
theorem dL_law_194 : decode code 194 = .ok (.aload_n 0, 1) := by decide +kernel
theorem dL_law_195 : decode code 195 = .ok (.iload_n 3, 1) := by decide +kernel
theorem dL_law_196 : decode code 196 = .ok (.iconst 3, 1) := by decide +kernel
theorem dL_law_197 : decode code 197 = .ok (.iadd, 1) := by decide +kernel
theorem dL_law_198 : decode code 198 = .ok (.iaload, 1) := by decide +kernel
theorem dL_law_199 : decode code 199 = .ok (.invokevirtual 17, 3) := by decide +kernel
theorem dL_law_202 : decode code 202 = .ok (.if_icmp .eq 901, 3) := by decide +kernel
theorem dL_law_205 : decode code 205 = .ok (.iconst 0, 1) := by decide +kernel
theorem dL_law_206 : decode code 206 = .ok (.ireturn, 1) := by decide +kernel
theorem dL_law_207 : decode code 207 = .ok (.aload_n 1, 1) := by decide +kernel
theorem dL_law_208 : decode code 208 = .ok (.aload_n 0, 1) := by decide +kernel
theorem dL_law_209 : decode code 209 = .ok (.iload_n 3, 1) := by decide +kernel
theorem dL_law_210 : decode code 210 = .ok (.iconst 1, 1) := by decide +kernel
theorem dL_law_211 : decode code 211 = .ok (.iadd, 1) := by decide +kernel
theorem dL_law_212 : decode code 212 = .ok (.iaload, 1) := by decide +kernel
theorem dL_law_213 : decode code 213 = .ok (.aload_n 0, 1) := by decide +kernel
theorem dL_law_214 : decode code 214 = .ok (.iload_n 3, 1) := by decide +kernel
theorem dL_law_215 : decode code 215 = .ok (.iconst 2, 1) := by decide +kernel
theorem dL_law_216 : decode code 216 = .ok (.iadd, 1) := by decide +kernel
theorem dL_law_217 : decode code 217 = .ok (.iaload, 1) := by decide +kernel
theorem dL_law_218 : decode code 218 = .ok (.aload_n 0, 1) := by decide +kernel
theorem dL_law_219 : decode code 219 = .ok (.iload_n 3, 1) := by decide +kernel
theorem dL_law_220 : decode code 220 = .ok (.iconst 3, 1) := by decide +kernel
theorem dL_law_221 : decode code 221 = .ok (.iadd, 1) := by decide +kernel
theorem dL_law_222 : decode code 222 = .ok (.iaload, 1) := by decide +kernel
theorem dL_law_223 : decode code 223 = .ok (.aload_n 0, 1) := by decide +kernel
theorem dL_law_224 : decode code 224 = .ok (.iload_n 3, 1) := by decide +kernel
theorem dL_law_225 : decode code 225 = .ok (.iconst 4, 1) := by decide +kernel
theorem dL_law_226 : decode code 226 = .ok (.iadd, 1) := by decide +kernel
theorem dL_law_227 : decode code 227 = .ok (.iaload, 1) := by decide +kernel
theorem dL_law_228 : decode code 228 = .ok (.invokevirtual 18, 3) := by decide +kernel
theorem dL_law_231 : decode code 231 = .ok (.aload_n 2, 1) := by decide +kernel
theorem dL_law_232 : decode code 232 = .ok (.aload_n 0, 1) := by decide +kernel
theorem dL_law_233 : decode code 233 = .ok (.iload_n 3, 1) := by decide +kernel
theorem dL_law_234 : decode code 234 = .ok (.iconst 1, 1) := by decide +kernel
theorem dL_law_235 : decode code 235 = .ok (.iadd, 1) := by decide +kernel
theorem dL_law_236 : decode code 236 = .ok (.iaload, 1) := by decide +kernel
theorem dL_law_237 : decode code 237 = .ok (.aload_n 0, 1) := by decide +kernel
theorem dL_law_238 : decode code 238 = .ok (.iload_n 3, 1) := by decide +kernel
theorem dL_law_239 : decode code 239 = .ok (.iconst 2, 1) := by decide +kernel
theorem dL_law_240 : decode code 240 = .ok (.iadd, 1) := by decide +kernel
theorem dL_law_241 : decode code 241 = .ok (.iaload, 1) := by decide +kernel
theorem dL_law_242 : decode code 242 = .ok (.aload_n 0, 1) := by decide +kernel
theorem dL_law_243 : decode code 243 = .ok (.iload_n 3, 1) := by decide +kernel
theorem dL_law_244 : decode code 244 = .ok (.iconst 3, 1) := by decide +kernel
theorem dL_law_245 : decode code 245 = .ok (.iadd, 1) := by decide +kernel
theorem dL_law_246 : decode code 246 = .ok (.iaload, 1) := by decide +kernel
theorem dL_law_247 : decode code 247 = .ok (.aload_n 0, 1) := by decide +kernel
theorem dL_law_248 : decode code 248 = .ok (.iload_n 3, 1) := by decide +kernel
theorem dL_law_249 : decode code 249 = .ok (.iconst 4, 1) := by decide +kernel
theorem dL_law_250 : decode code 250 = .ok (.iadd, 1) := by decide +kernel
theorem dL_law_251 : decode code 251 = .ok (.iaload, 1) := by decide +kernel
theorem dL_law_252 : decode code 252 = .ok (.invokevirtual 22, 3) := by decide +kernel
theorem dL_law_255 : decode code 255 = .ok (.if_icmp .eq 848, 3) := by decide +kernel
theorem dL_law_258 : decode code 258 = .ok (.iconst 0, 1) := by decide +kernel
theorem dL_law_259 : decode code 259 = .ok (.ireturn, 1) := by decide +kernel
theorem dL_law_260 : decode code 260 = .ok (.aload_n 1, 1) := by decide +kernel
theorem dL_law_261 : decode code 261 = .ok (.aload_n 0, 1) := by decide +kernel
theorem dL_law_262 : decode code 262 = .ok (.iload_n 3, 1) := by decide +kernel
theorem dL_law_263 : decode code 263 = .ok (.iconst 1, 1) := by decide +kernel
theorem dL_law_264 : decode code 264 = .ok (.iadd, 1) := by decide +kernel
theorem dL_law_265 : decode code 265 = .ok (.iaload, 1) := by decide +kernel
theorem dL_law_266 : decode code 266 = .ok (.aload_n 0, 1) := by decide +kernel
theorem dL_law_267 : decode code 267 = .ok (.iload_n 3, 1) := by decide +kernel
theorem dL_law_268 : decode code 268 = .ok (.iconst 2, 1) := by decide +kernel
theorem dL_law_269 : decode code 269 = .ok (.iadd, 1) := by decide +kernel
theorem dL_law_270 : decode code 270 = .ok (.iaload, 1) := by decide +kernel
theorem dL_law_271 : decode code 271 = .ok (.invokevirtual 23, 3) := by decide +kernel
theorem dL_law_274 : decode code 274 = .ok (.aload_n 2, 1) := by decide +kernel
theorem dL_law_275 : decode code 275 = .ok (.aload_n 0, 1) := by decide +kernel
theorem dL_law_276 : decode code 276 = .ok (.iload_n 3, 1) := by decide +kernel
theorem dL_law_277 : decode code 277 = .ok (.iconst 1, 1) := by decide +kernel
theorem dL_law_278 : decode code 278 = .ok (.iadd, 1) := by decide +kernel
theorem dL_law_279 : decode code 279 = .ok (.iaload, 1) := by decide +kernel
theorem dL_law_280 : decode code 280 = .ok (.aload_n 0, 1) := by decide +kernel
theorem dL_law_281 : decode code 281 = .ok (.iload_n 3, 1) := by decide +kernel
theorem dL_law_282 : decode code 282 = .ok (.iconst 2, 1) := by decide +kernel
theorem dL_law_283 : decode code 283 = .ok (.iadd, 1) := by decide +kernel
theorem dL_law_284 : decode code 284 = .ok (.iaload, 1) := by decide +kernel
theorem dL_law_285 : decode code 285 = .ok (.invokevirtual 27, 3) := by decide +kernel
theorem dL_law_288 : decode code 288 = .ok (.if_icmp .eq 815, 3) := by decide +kernel
theorem dL_law_291 : decode code 291 = .ok (.iconst 0, 1) := by decide +kernel
theorem dL_law_292 : decode code 292 = .ok (.ireturn, 1) := by decide +kernel
theorem dL_law_293 : decode code 293 = .ok (.aload_n 1, 1) := by decide +kernel
theorem dL_law_294 : decode code 294 = .ok (.aload_n 0, 1) := by decide +kernel
theorem dL_law_295 : decode code 295 = .ok (.iload_n 3, 1) := by decide +kernel
theorem dL_law_296 : decode code 296 = .ok (.iconst 1, 1) := by decide +kernel
theorem dL_law_297 : decode code 297 = .ok (.iadd, 1) := by decide +kernel
theorem dL_law_298 : decode code 298 = .ok (.iaload, 1) := by decide +kernel
theorem dL_law_299 : decode code 299 = .ok (.invokevirtual 28, 3) := by decide +kernel
theorem dL_law_302 : decode code 302 = .ok (.aload_n 2, 1) := by decide +kernel
theorem dL_law_303 : decode code 303 = .ok (.aload_n 0, 1) := by decide +kernel
theorem dL_law_304 : decode code 304 = .ok (.iload_n 3, 1) := by decide +kernel
theorem dL_law_305 : decode code 305 = .ok (.iconst 1, 1) := by decide +kernel
theorem dL_law_306 : decode code 306 = .ok (.iadd, 1) := by decide +kernel
theorem dL_law_307 : decode code 307 = .ok (.iaload, 1) := by decide +kernel
theorem dL_law_308 : decode code 308 = .ok (.invokevirtual 32, 3) := by decide +kernel
theorem dL_law_311 : decode code 311 = .ok (.if_icmp .eq 792, 3) := by decide +kernel
theorem dL_law_314 : decode code 314 = .ok (.iconst 0, 1) := by decide +kernel
theorem dL_law_315 : decode code 315 = .ok (.ireturn, 1) := by decide +kernel
theorem dL_law_316 : decode code 316 = .ok (.aload_n 1, 1) := by decide +kernel
theorem dL_law_317 : decode code 317 = .ok (.aload_n 0, 1) := by decide +kernel
theorem dL_law_318 : decode code 318 = .ok (.iload_n 3, 1) := by decide +kernel
theorem dL_law_319 : decode code 319 = .ok (.iconst 1, 1) := by decide +kernel
theorem dL_law_320 : decode code 320 = .ok (.iadd, 1) := by decide +kernel
theorem dL_law_321 : decode code 321 = .ok (.iaload, 1) := by decide +kernel
theorem dL_law_322 : decode code 322 = .ok (.invokevirtual 33, 3) := by decide +kernel
theorem dL_law_325 : decode code 325 = .ok (.aload_n 2, 1) := by decide +kernel
theorem dL_law_326 : decode code 326 = .ok (.aload_n 0, 1) := by decide +kernel
theorem dL_law_327 : decode code 327 = .ok (.iload_n 3, 1) := by decide +kernel
theorem dL_law_328 : decode code 328 = .ok (.iconst 1, 1) := by decide +kernel
theorem dL_law_329 : decode code 329 = .ok (.iadd, 1) := by decide +kernel
theorem dL_law_330 : decode code 330 = .ok (.iaload, 1) := by decide +kernel
theorem dL_law_331 : decode code 331 = .ok (.invokevirtual 36, 3) := by decide +kernel
theorem dL_law_334 : decode code 334 = .ok (.if_icmp .eq 769, 3) := by decide +kernel
theorem dL_law_337 : decode code 337 = .ok (.iconst 0, 1) := by decide +kernel
theorem dL_law_338 : decode code 338 = .ok (.ireturn, 1) := by decide +kernel
theorem dL_law_339 : decode code 339 = .ok (.aload_n 1, 1) := by decide +kernel
theorem dL_law_340 : decode code 340 = .ok (.invokevirtual 37, 3) := by decide +kernel
theorem dL_law_343 : decode code 343 = .ok (.aload_n 2, 1) := by decide +kernel
theorem dL_law_344 : decode code 344 = .ok (.invokevirtual 41, 3) := by decide +kernel
theorem dL_law_347 : decode code 347 = .ok (.if_icmp .eq 756, 3) := by decide +kernel
theorem dL_law_350 : decode code 350 = .ok (.iconst 0, 1) := by decide +kernel
theorem dL_law_351 : decode code 351 = .ok (.ireturn, 1) := by decide +kernel
theorem dL_law_352 : decode code 352 = .ok (.aload_n 1, 1) := by decide +kernel
theorem dL_law_353 : decode code 353 = .ok (.aload_n 0, 1) := by decide +kernel
theorem dL_law_354 : decode code 354 = .ok (.iload_n 3, 1) := by decide +kernel
theorem dL_law_355 : decode code 355 = .ok (.iconst 1, 1) := by decide +kernel
theorem dL_law_356 : decode code 356 = .ok (.iadd, 1) := by decide +kernel
theorem dL_law_357 : decode code 357 = .ok (.iaload, 1) := by decide +kernel
theorem dL_law_358 : decode code 358 = .ok (.invokevirtual 42, 3) := by decide +kernel
theorem dL_law_361 : decode code 361 = .ok (.aload_n 2, 1) := by decide +kernel
theorem dL_law_362 : decode code 362 = .ok (.aload_n 0, 1) := by decide +kernel
theorem dL_law_363 : decode code 363 = .ok (.iload_n 3, 1) := by decide +kernel
theorem dL_law_364 : decode code 364 = .ok (.iconst 1, 1) := by decide +kernel
theorem dL_law_365 : decode code 365 = .ok (.iadd, 1) := by decide +kernel
theorem dL_law_366 : decode code 366 = .ok (.iaload, 1) := by decide +kernel
theorem dL_law_367 : decode code 367 = .ok (.invokevirtual 45, 3) := by decide +kernel
theorem dL_law_370 : decode code 370 = .ok (.if_icmp .eq 733, 3) := by decide +kernel
theorem dL_law_373 : decode code 373 = .ok (.iconst 0, 1) := by decide +kernel
theorem dL_law_374 : decode code 374 = .ok (.ireturn, 1) := by decide +kernel
theorem dL_law_375 : decode code 375 = .ok (.aload_n 1, 1) := by decide +kernel
theorem dL_law_376 : decode code 376 = .ok (.invokevirtual 46, 3) := by decide +kernel
theorem dL_law_379 : decode code 379 = .ok (.aload_n 2, 1) := by decide +kernel
theorem dL_law_380 : decode code 380 = .ok (.invokevirtual 49, 3) := by decide +kernel
theorem dL_law_383 : decode code 383 = .ok (.if_icmp .eq 720, 3) := by decide +kernel
theorem dL_law_386 : decode code 386 = .ok (.iconst 0, 1) := by decide +kernel
theorem dL_law_387 : decode code 387 = .ok (.ireturn, 1) := by decide +kernel
theorem dL_law_388 : decode code 388 = .ok (.aload_n 1, 1) := by decide +kernel
theorem dL_law_389 : decode code 389 = .ok (.aload_n 0, 1) := by decide +kernel
theorem dL_law_390 : decode code 390 = .ok (.iload_n 3, 1) := by decide +kernel
theorem dL_law_391 : decode code 391 = .ok (.iconst 1, 1) := by decide +kernel
theorem dL_law_392 : decode code 392 = .ok (.iadd, 1) := by decide +kernel
theorem dL_law_393 : decode code 393 = .ok (.iaload, 1) := by decide +kernel
theorem dL_law_394 : decode code 394 = .ok (.aload_n 0, 1) := by decide +kernel
theorem dL_law_395 : decode code 395 = .ok (.iload_n 3, 1) := by decide +kernel
theorem dL_law_396 : decode code 396 = .ok (.iconst 2, 1) := by decide +kernel
theorem dL_law_397 : decode code 397 = .ok (.iadd, 1) := by decide +kernel
theorem dL_law_398 : decode code 398 = .ok (.iaload, 1) := by decide +kernel
theorem dL_law_399 : decode code 399 = .ok (.aload_n 0, 1) := by decide +kernel
theorem dL_law_400 : decode code 400 = .ok (.iload_n 3, 1) := by decide +kernel
theorem dL_law_401 : decode code 401 = .ok (.iconst 3, 1) := by decide +kernel
theorem dL_law_402 : decode code 402 = .ok (.iadd, 1) := by decide +kernel
theorem dL_law_403 : decode code 403 = .ok (.iaload, 1) := by decide +kernel
theorem dL_law_404 : decode code 404 = .ok (.invokevirtual 50, 3) := by decide +kernel
theorem dL_law_407 : decode code 407 = .ok (.aload_n 2, 1) := by decide +kernel
theorem dL_law_408 : decode code 408 = .ok (.aload_n 0, 1) := by decide +kernel
theorem dL_law_409 : decode code 409 = .ok (.iload_n 3, 1) := by decide +kernel
theorem dL_law_410 : decode code 410 = .ok (.iconst 1, 1) := by decide +kernel
theorem dL_law_411 : decode code 411 = .ok (.iadd, 1) := by decide +kernel
theorem dL_law_412 : decode code 412 = .ok (.iaload, 1) := by decide +kernel
theorem dL_law_413 : decode code 413 = .ok (.aload_n 0, 1) := by decide +kernel
theorem dL_law_414 : decode code 414 = .ok (.iload_n 3, 1) := by decide +kernel
theorem dL_law_415 : decode code 415 = .ok (.iconst 2, 1) := by decide +kernel
theorem dL_law_416 : decode code 416 = .ok (.iadd, 1) := by decide +kernel
theorem dL_law_417 : decode code 417 = .ok (.iaload, 1) := by decide +kernel
theorem dL_law_418 : decode code 418 = .ok (.aload_n 0, 1) := by decide +kernel
theorem dL_law_419 : decode code 419 = .ok (.iload_n 3, 1) := by decide +kernel
theorem dL_law_420 : decode code 420 = .ok (.iconst 3, 1) := by decide +kernel
theorem dL_law_421 : decode code 421 = .ok (.iadd, 1) := by decide +kernel
theorem dL_law_422 : decode code 422 = .ok (.iaload, 1) := by decide +kernel
theorem dL_law_423 : decode code 423 = .ok (.invokevirtual 53, 3) := by decide +kernel
theorem dL_law_426 : decode code 426 = .ok (.if_icmp .eq 677, 3) := by decide +kernel
theorem dL_law_429 : decode code 429 = .ok (.iconst 0, 1) := by decide +kernel
theorem dL_law_430 : decode code 430 = .ok (.ireturn, 1) := by decide +kernel
theorem dL_law_431 : decode code 431 = .ok (.aload_n 1, 1) := by decide +kernel
theorem dL_law_432 : decode code 432 = .ok (.aload_n 0, 1) := by decide +kernel
theorem dL_law_433 : decode code 433 = .ok (.iload_n 3, 1) := by decide +kernel
theorem dL_law_434 : decode code 434 = .ok (.iconst 1, 1) := by decide +kernel
theorem dL_law_435 : decode code 435 = .ok (.iadd, 1) := by decide +kernel
theorem dL_law_436 : decode code 436 = .ok (.iaload, 1) := by decide +kernel
theorem dL_law_437 : decode code 437 = .ok (.invokevirtual 54, 3) := by decide +kernel
theorem dL_law_440 : decode code 440 = .ok (.aload_n 2, 1) := by decide +kernel
theorem dL_law_441 : decode code 441 = .ok (.aload_n 0, 1) := by decide +kernel
theorem dL_law_442 : decode code 442 = .ok (.iload_n 3, 1) := by decide +kernel
theorem dL_law_443 : decode code 443 = .ok (.iconst 1, 1) := by decide +kernel
theorem dL_law_444 : decode code 444 = .ok (.iadd, 1) := by decide +kernel
theorem dL_law_445 : decode code 445 = .ok (.iaload, 1) := by decide +kernel
theorem dL_law_446 : decode code 446 = .ok (.invokevirtual 57, 3) := by decide +kernel
theorem dL_law_449 : decode code 449 = .ok (.if_icmp .eq 654, 3) := by decide +kernel
theorem dL_law_452 : decode code 452 = .ok (.iconst 0, 1) := by decide +kernel
theorem dL_law_453 : decode code 453 = .ok (.ireturn, 1) := by decide +kernel
theorem dL_law_454 : decode code 454 = .ok (.aload_n 1, 1) := by decide +kernel
theorem dL_law_455 : decode code 455 = .ok (.aload_n 0, 1) := by decide +kernel
theorem dL_law_456 : decode code 456 = .ok (.iload_n 3, 1) := by decide +kernel
theorem dL_law_457 : decode code 457 = .ok (.iconst 1, 1) := by decide +kernel
theorem dL_law_458 : decode code 458 = .ok (.iadd, 1) := by decide +kernel
theorem dL_law_459 : decode code 459 = .ok (.iaload, 1) := by decide +kernel
theorem dL_law_460 : decode code 460 = .ok (.aload_n 0, 1) := by decide +kernel
theorem dL_law_461 : decode code 461 = .ok (.iload_n 3, 1) := by decide +kernel
theorem dL_law_462 : decode code 462 = .ok (.iconst 2, 1) := by decide +kernel
theorem dL_law_463 : decode code 463 = .ok (.iadd, 1) := by decide +kernel
theorem dL_law_464 : decode code 464 = .ok (.iaload, 1) := by decide +kernel
theorem dL_law_465 : decode code 465 = .ok (.invokevirtual 58, 3) := by decide +kernel
theorem dL_law_468 : decode code 468 = .ok (.aload_n 2, 1) := by decide +kernel
theorem dL_law_469 : decode code 469 = .ok (.aload_n 0, 1) := by decide +kernel
theorem dL_law_470 : decode code 470 = .ok (.iload_n 3, 1) := by decide +kernel
theorem dL_law_471 : decode code 471 = .ok (.iconst 1, 1) := by decide +kernel
theorem dL_law_472 : decode code 472 = .ok (.iadd, 1) := by decide +kernel
theorem dL_law_473 : decode code 473 = .ok (.iaload, 1) := by decide +kernel
theorem dL_law_474 : decode code 474 = .ok (.aload_n 0, 1) := by decide +kernel
theorem dL_law_475 : decode code 475 = .ok (.iload_n 3, 1) := by decide +kernel
theorem dL_law_476 : decode code 476 = .ok (.iconst 2, 1) := by decide +kernel
theorem dL_law_477 : decode code 477 = .ok (.iadd, 1) := by decide +kernel
theorem dL_law_478 : decode code 478 = .ok (.iaload, 1) := by decide +kernel
theorem dL_law_479 : decode code 479 = .ok (.invokevirtual 61, 3) := by decide +kernel
theorem dL_law_482 : decode code 482 = .ok (.if_icmp .eq 621, 3) := by decide +kernel
theorem dL_law_485 : decode code 485 = .ok (.iconst 0, 1) := by decide +kernel
theorem dL_law_486 : decode code 486 = .ok (.ireturn, 1) := by decide +kernel
theorem dL_law_487 : decode code 487 = .ok (.aload_n 1, 1) := by decide +kernel
theorem dL_law_488 : decode code 488 = .ok (.aload_n 0, 1) := by decide +kernel
theorem dL_law_489 : decode code 489 = .ok (.iload_n 3, 1) := by decide +kernel
theorem dL_law_490 : decode code 490 = .ok (.iconst 1, 1) := by decide +kernel
theorem dL_law_491 : decode code 491 = .ok (.iadd, 1) := by decide +kernel
theorem dL_law_492 : decode code 492 = .ok (.iaload, 1) := by decide +kernel
theorem dL_law_493 : decode code 493 = .ok (.invokevirtual 62, 3) := by decide +kernel
theorem dL_law_496 : decode code 496 = .ok (.aload_n 2, 1) := by decide +kernel
theorem dL_law_497 : decode code 497 = .ok (.aload_n 0, 1) := by decide +kernel
theorem dL_law_498 : decode code 498 = .ok (.iload_n 3, 1) := by decide +kernel
theorem dL_law_499 : decode code 499 = .ok (.iconst 1, 1) := by decide +kernel
theorem dL_law_500 : decode code 500 = .ok (.iadd, 1) := by decide +kernel
theorem dL_law_501 : decode code 501 = .ok (.iaload, 1) := by decide +kernel
theorem dL_law_502 : decode code 502 = .ok (.invokevirtual 65, 3) := by decide +kernel
theorem dL_law_505 : decode code 505 = .ok (.if_icmp .eq 598, 3) := by decide +kernel
theorem dL_law_508 : decode code 508 = .ok (.iconst 0, 1) := by decide +kernel
theorem dL_law_509 : decode code 509 = .ok (.ireturn, 1) := by decide +kernel
theorem dL_law_510 : decode code 510 = .ok (.aload_n 1, 1) := by decide +kernel
theorem dL_law_511 : decode code 511 = .ok (.aload_n 0, 1) := by decide +kernel
theorem dL_law_512 : decode code 512 = .ok (.iload_n 3, 1) := by decide +kernel
theorem dL_law_513 : decode code 513 = .ok (.iconst 1, 1) := by decide +kernel
theorem dL_law_514 : decode code 514 = .ok (.iadd, 1) := by decide +kernel
theorem dL_law_515 : decode code 515 = .ok (.iaload, 1) := by decide +kernel
theorem dL_law_516 : decode code 516 = .ok (.invokevirtual 66, 3) := by decide +kernel
theorem dL_law_519 : decode code 519 = .ok (.aload_n 2, 1) := by decide +kernel
theorem dL_law_520 : decode code 520 = .ok (.aload_n 0, 1) := by decide +kernel
theorem dL_law_521 : decode code 521 = .ok (.iload_n 3, 1) := by decide +kernel
theorem dL_law_522 : decode code 522 = .ok (.iconst 1, 1) := by decide +kernel
theorem dL_law_523 : decode code 523 = .ok (.iadd, 1) := by decide +kernel
theorem dL_law_524 : decode code 524 = .ok (.iaload, 1) := by decide +kernel
theorem dL_law_525 : decode code 525 = .ok (.invokevirtual 69, 3) := by decide +kernel
theorem dL_law_528 : decode code 528 = .ok (.if_icmp .eq 575, 3) := by decide +kernel
theorem dL_law_531 : decode code 531 = .ok (.iconst 0, 1) := by decide +kernel
theorem dL_law_532 : decode code 532 = .ok (.ireturn, 1) := by decide +kernel
theorem dL_law_533 : decode code 533 = .ok (.aload_n 1, 1) := by decide +kernel
theorem dL_law_534 : decode code 534 = .ok (.aload_n 0, 1) := by decide +kernel
theorem dL_law_535 : decode code 535 = .ok (.iload_n 3, 1) := by decide +kernel
theorem dL_law_536 : decode code 536 = .ok (.iconst 1, 1) := by decide +kernel
theorem dL_law_537 : decode code 537 = .ok (.iadd, 1) := by decide +kernel
theorem dL_law_538 : decode code 538 = .ok (.iaload, 1) := by decide +kernel
theorem dL_law_539 : decode code 539 = .ok (.aload_n 0, 1) := by decide +kernel
theorem dL_law_540 : decode code 540 = .ok (.iload_n 3, 1) := by decide +kernel
theorem dL_law_541 : decode code 541 = .ok (.iconst 2, 1) := by decide +kernel
theorem dL_law_542 : decode code 542 = .ok (.iadd, 1) := by decide +kernel
theorem dL_law_543 : decode code 543 = .ok (.iaload, 1) := by decide +kernel
theorem dL_law_544 : decode code 544 = .ok (.invokevirtual 70, 3) := by decide +kernel
theorem dL_law_547 : decode code 547 = .ok (.aload_n 2, 1) := by decide +kernel
theorem dL_law_548 : decode code 548 = .ok (.aload_n 0, 1) := by decide +kernel
theorem dL_law_549 : decode code 549 = .ok (.iload_n 3, 1) := by decide +kernel
theorem dL_law_550 : decode code 550 = .ok (.iconst 1, 1) := by decide +kernel
theorem dL_law_551 : decode code 551 = .ok (.iadd, 1) := by decide +kernel
theorem dL_law_552 : decode code 552 = .ok (.iaload, 1) := by decide +kernel
theorem dL_law_553 : decode code 553 = .ok (.aload_n 0, 1) := by decide +kernel
theorem dL_law_554 : decode code 554 = .ok (.iload_n 3, 1) := by decide +kernel
theorem dL_law_555 : decode code 555 = .ok (.iconst 2, 1) := by decide +kernel
theorem dL_law_556 : decode code 556 = .ok (.iadd, 1) := by decide +kernel
theorem dL_law_557 : decode code 557 = .ok (.iaload, 1) := by decide +kernel
theorem dL_law_558 : decode code 558 = .ok (.invokevirtual 73, 3) := by decide +kernel
theorem dL_law_561 : decode code 561 = .ok (.if_icmp .eq 542, 3) := by decide +kernel
theorem dL_law_564 : decode code 564 = .ok (.iconst 0, 1) := by decide +kernel
theorem dL_law_565 : decode code 565 = .ok (.ireturn, 1) := by decide +kernel
theorem dL_law_566 : decode code 566 = .ok (.aload_n 1, 1) := by decide +kernel
theorem dL_law_567 : decode code 567 = .ok (.aload_n 0, 1) := by decide +kernel
theorem dL_law_568 : decode code 568 = .ok (.iload_n 3, 1) := by decide +kernel
theorem dL_law_569 : decode code 569 = .ok (.iconst 1, 1) := by decide +kernel
theorem dL_law_570 : decode code 570 = .ok (.iadd, 1) := by decide +kernel
theorem dL_law_571 : decode code 571 = .ok (.iaload, 1) := by decide +kernel
theorem dL_law_572 : decode code 572 = .ok (.invokevirtual 74, 3) := by decide +kernel
theorem dL_law_575 : decode code 575 = .ok (.aload_n 2, 1) := by decide +kernel
theorem dL_law_576 : decode code 576 = .ok (.aload_n 0, 1) := by decide +kernel
theorem dL_law_577 : decode code 577 = .ok (.iload_n 3, 1) := by decide +kernel
theorem dL_law_578 : decode code 578 = .ok (.iconst 1, 1) := by decide +kernel
theorem dL_law_579 : decode code 579 = .ok (.iadd, 1) := by decide +kernel
theorem dL_law_580 : decode code 580 = .ok (.iaload, 1) := by decide +kernel
theorem dL_law_581 : decode code 581 = .ok (.invokevirtual 77, 3) := by decide +kernel
theorem dL_law_584 : decode code 584 = .ok (.if_icmp .eq 519, 3) := by decide +kernel
theorem dL_law_587 : decode code 587 = .ok (.iconst 0, 1) := by decide +kernel
theorem dL_law_588 : decode code 588 = .ok (.ireturn, 1) := by decide +kernel
theorem dL_law_589 : decode code 589 = .ok (.aload_n 1, 1) := by decide +kernel
theorem dL_law_590 : decode code 590 = .ok (.aload_n 0, 1) := by decide +kernel
theorem dL_law_591 : decode code 591 = .ok (.iload_n 3, 1) := by decide +kernel
theorem dL_law_592 : decode code 592 = .ok (.iconst 1, 1) := by decide +kernel
theorem dL_law_593 : decode code 593 = .ok (.iadd, 1) := by decide +kernel
theorem dL_law_594 : decode code 594 = .ok (.iaload, 1) := by decide +kernel
theorem dL_law_595 : decode code 595 = .ok (.aload_n 0, 1) := by decide +kernel
theorem dL_law_596 : decode code 596 = .ok (.iload_n 3, 1) := by decide +kernel
theorem dL_law_597 : decode code 597 = .ok (.iconst 2, 1) := by decide +kernel
theorem dL_law_598 : decode code 598 = .ok (.iadd, 1) := by decide +kernel
theorem dL_law_599 : decode code 599 = .ok (.iaload, 1) := by decide +kernel
theorem dL_law_600 : decode code 600 = .ok (.invokevirtual 78, 3) := by decide +kernel
theorem dL_law_603 : decode code 603 = .ok (.aload_n 2, 1) := by decide +kernel
theorem dL_law_604 : decode code 604 = .ok (.aload_n 0, 1) := by decide +kernel
theorem dL_law_605 : decode code 605 = .ok (.iload_n 3, 1) := by decide +kernel
theorem dL_law_606 : decode code 606 = .ok (.iconst 1, 1) := by decide +kernel
theorem dL_law_607 : decode code 607 = .ok (.iadd, 1) := by decide +kernel
theorem dL_law_608 : decode code 608 = .ok (.iaload, 1) := by decide +kernel
theorem dL_law_609 : decode code 609 = .ok (.aload_n 0, 1) := by decide +kernel
theorem dL_law_610 : decode code 610 = .ok (.iload_n 3, 1) := by decide +kernel
theorem dL_law_611 : decode code 611 = .ok (.iconst 2, 1) := by decide +kernel
theorem dL_law_612 : decode code 612 = .ok (.iadd, 1) := by decide +kernel
theorem dL_law_613 : decode code 613 = .ok (.iaload, 1) := by decide +kernel
theorem dL_law_614 : decode code 614 = .ok (.invokevirtual 81, 3) := by decide +kernel
theorem dL_law_617 : decode code 617 = .ok (.if_icmp .eq 486, 3) := by decide +kernel
theorem dL_law_620 : decode code 620 = .ok (.iconst 0, 1) := by decide +kernel
theorem dL_law_621 : decode code 621 = .ok (.ireturn, 1) := by decide +kernel
theorem dL_law_622 : decode code 622 = .ok (.aload_n 1, 1) := by decide +kernel
theorem dL_law_623 : decode code 623 = .ok (.aload_n 0, 1) := by decide +kernel
theorem dL_law_624 : decode code 624 = .ok (.iload_n 3, 1) := by decide +kernel
theorem dL_law_625 : decode code 625 = .ok (.iconst 1, 1) := by decide +kernel
theorem dL_law_626 : decode code 626 = .ok (.iadd, 1) := by decide +kernel
theorem dL_law_627 : decode code 627 = .ok (.iaload, 1) := by decide +kernel
theorem dL_law_628 : decode code 628 = .ok (.invokevirtual 82, 3) := by decide +kernel
theorem dL_law_631 : decode code 631 = .ok (.aload_n 2, 1) := by decide +kernel
theorem dL_law_632 : decode code 632 = .ok (.aload_n 0, 1) := by decide +kernel
theorem dL_law_633 : decode code 633 = .ok (.iload_n 3, 1) := by decide +kernel
theorem dL_law_634 : decode code 634 = .ok (.iconst 1, 1) := by decide +kernel
theorem dL_law_635 : decode code 635 = .ok (.iadd, 1) := by decide +kernel
theorem dL_law_636 : decode code 636 = .ok (.iaload, 1) := by decide +kernel
theorem dL_law_637 : decode code 637 = .ok (.invokevirtual 86, 3) := by decide +kernel
theorem dL_law_640 : decode code 640 = .ok (.lcmp, 1) := by decide +kernel
theorem dL_law_641 : decode code 641 = .ok (.ifCond .eq 462, 3) := by decide +kernel
theorem dL_law_644 : decode code 644 = .ok (.iconst 0, 1) := by decide +kernel
theorem dL_law_645 : decode code 645 = .ok (.ireturn, 1) := by decide +kernel
theorem dL_law_646 : decode code 646 = .ok (.aload_n 1, 1) := by decide +kernel
theorem dL_law_647 : decode code 647 = .ok (.aload_n 0, 1) := by decide +kernel
theorem dL_law_648 : decode code 648 = .ok (.iload_n 3, 1) := by decide +kernel
theorem dL_law_649 : decode code 649 = .ok (.iconst 1, 1) := by decide +kernel
theorem dL_law_650 : decode code 650 = .ok (.iadd, 1) := by decide +kernel
theorem dL_law_651 : decode code 651 = .ok (.iaload, 1) := by decide +kernel
theorem dL_law_652 : decode code 652 = .ok (.aload_n 0, 1) := by decide +kernel
theorem dL_law_653 : decode code 653 = .ok (.iload_n 3, 1) := by decide +kernel
theorem dL_law_654 : decode code 654 = .ok (.iconst 2, 1) := by decide +kernel
theorem dL_law_655 : decode code 655 = .ok (.iadd, 1) := by decide +kernel
theorem dL_law_656 : decode code 656 = .ok (.iaload, 1) := by decide +kernel
theorem dL_law_657 : decode code 657 = .ok (.aload_n 0, 1) := by decide +kernel
theorem dL_law_658 : decode code 658 = .ok (.iload_n 3, 1) := by decide +kernel
theorem dL_law_659 : decode code 659 = .ok (.iconst 3, 1) := by decide +kernel
theorem dL_law_660 : decode code 660 = .ok (.iadd, 1) := by decide +kernel
theorem dL_law_661 : decode code 661 = .ok (.iaload, 1) := by decide +kernel
theorem dL_law_662 : decode code 662 = .ok (.invokevirtual 87, 3) := by decide +kernel
theorem dL_law_665 : decode code 665 = .ok (.aload_n 2, 1) := by decide +kernel
theorem dL_law_666 : decode code 666 = .ok (.aload_n 0, 1) := by decide +kernel
theorem dL_law_667 : decode code 667 = .ok (.iload_n 3, 1) := by decide +kernel
theorem dL_law_668 : decode code 668 = .ok (.iconst 1, 1) := by decide +kernel
theorem dL_law_669 : decode code 669 = .ok (.iadd, 1) := by decide +kernel
theorem dL_law_670 : decode code 670 = .ok (.iaload, 1) := by decide +kernel
theorem dL_law_671 : decode code 671 = .ok (.aload_n 0, 1) := by decide +kernel
theorem dL_law_672 : decode code 672 = .ok (.iload_n 3, 1) := by decide +kernel
theorem dL_law_673 : decode code 673 = .ok (.iconst 2, 1) := by decide +kernel
theorem dL_law_674 : decode code 674 = .ok (.iadd, 1) := by decide +kernel
theorem dL_law_675 : decode code 675 = .ok (.iaload, 1) := by decide +kernel
theorem dL_law_676 : decode code 676 = .ok (.aload_n 0, 1) := by decide +kernel
theorem dL_law_677 : decode code 677 = .ok (.iload_n 3, 1) := by decide +kernel
theorem dL_law_678 : decode code 678 = .ok (.iconst 3, 1) := by decide +kernel
theorem dL_law_679 : decode code 679 = .ok (.iadd, 1) := by decide +kernel
theorem dL_law_680 : decode code 680 = .ok (.iaload, 1) := by decide +kernel
theorem dL_law_681 : decode code 681 = .ok (.invokevirtual 90, 3) := by decide +kernel
theorem dL_law_684 : decode code 684 = .ok (.if_icmp .eq 419, 3) := by decide +kernel
theorem dL_law_687 : decode code 687 = .ok (.iconst 0, 1) := by decide +kernel
theorem dL_law_688 : decode code 688 = .ok (.ireturn, 1) := by decide +kernel
theorem dL_law_689 : decode code 689 = .ok (.aload_n 1, 1) := by decide +kernel
theorem dL_law_690 : decode code 690 = .ok (.aload_n 0, 1) := by decide +kernel
theorem dL_law_691 : decode code 691 = .ok (.iload_n 3, 1) := by decide +kernel
theorem dL_law_692 : decode code 692 = .ok (.iconst 1, 1) := by decide +kernel
theorem dL_law_693 : decode code 693 = .ok (.iadd, 1) := by decide +kernel
theorem dL_law_694 : decode code 694 = .ok (.iaload, 1) := by decide +kernel
theorem dL_law_695 : decode code 695 = .ok (.aload_n 0, 1) := by decide +kernel
theorem dL_law_696 : decode code 696 = .ok (.iload_n 3, 1) := by decide +kernel
theorem dL_law_697 : decode code 697 = .ok (.iconst 2, 1) := by decide +kernel
theorem dL_law_698 : decode code 698 = .ok (.iadd, 1) := by decide +kernel
theorem dL_law_699 : decode code 699 = .ok (.iaload, 1) := by decide +kernel
theorem dL_law_700 : decode code 700 = .ok (.aload_n 0, 1) := by decide +kernel
theorem dL_law_701 : decode code 701 = .ok (.iload_n 3, 1) := by decide +kernel
theorem dL_law_702 : decode code 702 = .ok (.iconst 3, 1) := by decide +kernel
theorem dL_law_703 : decode code 703 = .ok (.iadd, 1) := by decide +kernel
theorem dL_law_704 : decode code 704 = .ok (.iaload, 1) := by decide +kernel
theorem dL_law_705 : decode code 705 = .ok (.invokevirtual 91, 3) := by decide +kernel
theorem dL_law_708 : decode code 708 = .ok (.aload_n 2, 1) := by decide +kernel
theorem dL_law_709 : decode code 709 = .ok (.aload_n 0, 1) := by decide +kernel
theorem dL_law_710 : decode code 710 = .ok (.iload_n 3, 1) := by decide +kernel
theorem dL_law_711 : decode code 711 = .ok (.iconst 1, 1) := by decide +kernel
theorem dL_law_712 : decode code 712 = .ok (.iadd, 1) := by decide +kernel
theorem dL_law_713 : decode code 713 = .ok (.iaload, 1) := by decide +kernel
theorem dL_law_714 : decode code 714 = .ok (.aload_n 0, 1) := by decide +kernel
theorem dL_law_715 : decode code 715 = .ok (.iload_n 3, 1) := by decide +kernel
theorem dL_law_716 : decode code 716 = .ok (.iconst 2, 1) := by decide +kernel
theorem dL_law_717 : decode code 717 = .ok (.iadd, 1) := by decide +kernel
theorem dL_law_718 : decode code 718 = .ok (.iaload, 1) := by decide +kernel
theorem dL_law_719 : decode code 719 = .ok (.aload_n 0, 1) := by decide +kernel
theorem dL_law_720 : decode code 720 = .ok (.iload_n 3, 1) := by decide +kernel
