theorem dX9_init_0 : decode cX9_init 0 = .ok (.aload_n 0, 1) := by decide +kernel
theorem dX9_init_1 : decode cX9_init 1 = .ok (.invokespecial 1, 3) := by decide +kernel
theorem dX9_init_4 : decode cX9_init 4 = .ok (.aload_n 0, 1) := by decide +kernel
theorem dX9_init_5 : decode cX9_init 5 = .ok (.bipush 7, 2) := by decide +kernel
theorem dX9_init_7 : decode cX9_init 7 = .ok (.newarray .int, 2) := by decide +kernel
theorem dX9_init_9 : decode cX9_init 9 = .ok (.putfield 7, 3) := by decide +kernel
theorem dX9_init_12 : decode cX9_init 12 = .ok (.aload_n 0, 1) := by decide +kernel
theorem dX9_init_13 : decode cX9_init 13 = .ok (.iconst 4, 1) := by decide +kernel
theorem dX9_init_14 : decode cX9_init 14 = .ok (.newarray .int, 2) := by decide +kernel
theorem dX9_init_16 : decode cX9_init 16 = .ok (.putfield 13, 3) := by decide +kernel
theorem dX9_init_19 : decode cX9_init 19 = .ok (.aload_n 0, 1) := by decide +kernel
theorem dX9_init_20 : decode cX9_init 20 = .ok (.bipush 65, 2) := by decide +kernel
theorem dX9_init_22 : decode cX9_init 22 = .ok (.newarray .long, 2) := by decide +kernel
theorem dX9_init_24 : decode cX9_init 24 = .ok (.putfield 16, 3) := by decide +kernel
theorem dX9_init_27 : decode cX9_init 27 = .ok (.aload_n 0, 1) := by decide +kernel
theorem dX9_init_28 : decode cX9_init 28 = .ok (.sipush 390, 3) := by decide +kernel
theorem dX9_init_31 : decode cX9_init 31 = .ok (.newarray .long, 2) := by decide +kernel
theorem dX9_init_33 : decode cX9_init 33 = .ok (.putfield 20, 3) := by decide +kernel
theorem dX9_init_36 : decode cX9_init 36 = .ok (.aload_n 0, 1) := by decide +kernel
theorem dX9_init_37 : decode cX9_init 37 = .ok (.sipush 200, 3) := by decide +kernel
theorem dX9_init_40 : decode cX9_init 40 = .ok (.newarray .int, 2) := by decide +kernel
theorem dX9_init_42 : decode cX9_init 42 = .ok (.putfield 23, 3) := by decide +kernel
theorem dX9_init_45 : decode cX9_init 45 = .ok (.aload_n 0, 1) := by decide +kernel
theorem dX9_init_46 : decode cX9_init 46 = .ok (.bipush 7, 2) := by decide +kernel
theorem dX9_init_48 : decode cX9_init 48 = .ok (.newarray .int, 2) := by decide +kernel
theorem dX9_init_50 : decode cX9_init 50 = .ok (.putfield 26, 3) := by decide +kernel
theorem dX9_init_53 : decode cX9_init 53 = .ok (.aload_n 0, 1) := by decide +kernel
theorem dX9_init_54 : decode cX9_init 54 = .ok (.iconst 4, 1) := by decide +kernel
theorem dX9_init_55 : decode cX9_init 55 = .ok (.newarray .int, 2) := by decide +kernel
theorem dX9_init_57 : decode cX9_init 57 = .ok (.putfield 29, 3) := by decide +kernel
theorem dX9_init_60 : decode cX9_init 60 = .ok (.aload_n 0, 1) := by decide +kernel
theorem dX9_init_61 : decode cX9_init 61 = .ok (.iconst 4, 1) := by decide +kernel
theorem dX9_init_62 : decode cX9_init 62 = .ok (.newarray .int, 2) := by decide +kernel
theorem dX9_init_64 : decode cX9_init 64 = .ok (.putfield 32, 3) := by decide +kernel
theorem dX9_init_67 : decode cX9_init 67 = .ok (.aload_n 0, 1) := by decide +kernel
theorem dX9_init_68 : decode cX9_init 68 = .ok (.sipush 960, 3) := by decide +kernel
theorem dX9_init_71 : decode cX9_init 71 = .ok (.newarray .int, 2) := by decide +kernel
theorem dX9_init_73 : decode cX9_init 73 = .ok (.putfield 35, 3) := by decide +kernel
theorem dX9_init_76 : decode cX9_init 76 = .ok (.aload_n 0, 1) := by decide +kernel
theorem dX9_init_77 : decode cX9_init 77 = .ok (.sipush 960, 3) := by decide +kernel
theorem dX9_init_80 : decode cX9_init 80 = .ok (.newarray .int, 2) := by decide +kernel
theorem dX9_init_82 : decode cX9_init 82 = .ok (.putfield 38, 3) := by decide +kernel
theorem dX9_init_85 : decode cX9_init 85 = .ok (.aload_n 0, 1) := by decide +kernel
theorem dX9_init_86 : decode cX9_init 86 = .ok (.bipush 48, 2) := by decide +kernel
theorem dX9_init_88 : decode cX9_init 88 = .ok (.newarray .int, 2) := by decide +kernel
theorem dX9_init_90 : decode cX9_init 90 = .ok (.putfield 41, 3) := by decide +kernel
theorem dX9_init_93 : decode cX9_init 93 = .ok (.aload_n 0, 1) := by decide +kernel
theorem dX9_init_94 : decode cX9_init 94 = .ok (.bipush 48, 2) := by decide +kernel
theorem dX9_init_96 : decode cX9_init 96 = .ok (.newarray .int, 2) := by decide +kernel
theorem dX9_init_98 : decode cX9_init 98 = .ok (.putfield 44, 3) := by decide +kernel
theorem dX9_init_101 : decode cX9_init 101 = .ok (.aload_n 0, 1) := by decide +kernel
theorem dX9_init_102 : decode cX9_init 102 = .ok (.bipush 48, 2) := by decide +kernel
theorem dX9_init_104 : decode cX9_init 104 = .ok (.newarray .int, 2) := by decide +kernel
theorem dX9_init_106 : decode cX9_init 106 = .ok (.putfield 47, 3) := by decide +kernel
theorem dX9_init_109 : decode cX9_init 109 = .ok (.aload_n 0, 1) := by decide +kernel
theorem dX9_init_110 : decode cX9_init 110 = .ok (.bipush 48, 2) := by decide +kernel
theorem dX9_init_112 : decode cX9_init 112 = .ok (.newarray .int, 2) := by decide +kernel
theorem dX9_init_114 : decode cX9_init 114 = .ok (.putfield 50, 3) := by decide +kernel
theorem dX9_init_117 : decode cX9_init 117 = .ok (.aload_n 0, 1) := by decide +kernel
theorem dX9_init_118 : decode cX9_init 118 = .ok (.bipush 48, 2) := by decide +kernel
theorem dX9_init_120 : decode cX9_init 120 = .ok (.newarray .int, 2) := by decide +kernel
theorem dX9_init_122 : decode cX9_init 122 = .ok (.putfield 53, 3) := by decide +kernel
theorem dX9_init_125 : decode cX9_init 125 = .ok (.aload_n 0, 1) := by decide +kernel
theorem dX9_init_126 : decode cX9_init 126 = .ok (.bipush 48, 2) := by decide +kernel
theorem dX9_init_128 : decode cX9_init 128 = .ok (.newarray .int, 2) := by decide +kernel
theorem dX9_init_130 : decode cX9_init 130 = .ok (.putfield 56, 3) := by decide +kernel
theorem dX9_init_133 : decode cX9_init 133 = .ok (.aload_n 0, 1) := by decide +kernel
theorem dX9_init_134 : decode cX9_init 134 = .ok (.bipush 48, 2) := by decide +kernel
theorem dX9_init_136 : decode cX9_init 136 = .ok (.newarray .int, 2) := by decide +kernel
theorem dX9_init_138 : decode cX9_init 138 = .ok (.putfield 59, 3) := by decide +kernel
theorem dX9_init_141 : decode cX9_init 141 = .ok (.aload_n 0, 1) := by decide +kernel
theorem dX9_init_142 : decode cX9_init 142 = .ok (.bipush 48, 2) := by decide +kernel
theorem dX9_init_144 : decode cX9_init 144 = .ok (.newarray .int, 2) := by decide +kernel
theorem dX9_init_146 : decode cX9_init 146 = .ok (.putfield 62, 3) := by decide +kernel
theorem dX9_init_149 : decode cX9_init 149 = .ok (.aload_n 0, 1) := by decide +kernel
theorem dX9_init_150 : decode cX9_init 150 = .ok (.bipush 48, 2) := by decide +kernel
theorem dX9_init_152 : decode cX9_init 152 = .ok (.newarray .int, 2) := by decide +kernel
theorem dX9_init_154 : decode cX9_init 154 = .ok (.putfield 65, 3) := by decide +kernel
theorem dX9_init_157 : decode cX9_init 157 = .ok (.aload_n 0, 1) := by decide +kernel
theorem dX9_init_158 : decode cX9_init 158 = .ok (.bipush 48, 2) := by decide +kernel
theorem dX9_init_160 : decode cX9_init 160 = .ok (.newarray .int, 2) := by decide +kernel
theorem dX9_init_162 : decode cX9_init 162 = .ok (.putfield 68, 3) := by decide +kernel
theorem dX9_init_165 : decode cX9_init 165 = .ok (.aload_n 0, 1) := by decide +kernel
theorem dX9_init_166 : decode cX9_init 166 = .ok (.iconst 4, 1) := by decide +kernel
theorem dX9_init_167 : decode cX9_init 167 = .ok (.newarray .int, 2) := by decide +kernel
theorem dX9_init_169 : decode cX9_init 169 = .ok (.putfield 71, 3) := by decide +kernel
theorem dX9_init_172 : decode cX9_init 172 = .ok (.aload_n 0, 1) := by decide +kernel
theorem dX9_init_173 : decode cX9_init 173 = .ok (.bipush 48, 2) := by decide +kernel
theorem dX9_init_175 : decode cX9_init 175 = .ok (.newarray .int, 2) := by decide +kernel
theorem dX9_init_177 : decode cX9_init 177 = .ok (.putfield 74, 3) := by decide +kernel
theorem dX9_init_180 : decode cX9_init 180 = .ok (.aload_n 0, 1) := by decide +kernel
theorem dX9_init_181 : decode cX9_init 181 = .ok (.sipush 1536, 3) := by decide +kernel
theorem dX9_init_184 : decode cX9_init 184 = .ok (.newarray .boolean, 2) := by decide +kernel
theorem dX9_init_186 : decode cX9_init 186 = .ok (.putfield 77, 3) := by decide +kernel
theorem dX9_init_189 : decode cX9_init 189 = .ok (.aload_n 0, 1) := by decide +kernel
theorem dX9_init_190 : decode cX9_init 190 = .ok (.bipush 48, 2) := by decide +kernel
theorem dX9_init_192 : decode cX9_init 192 = .ok (.newarray .boolean, 2) := by decide +kernel
theorem dX9_init_194 : decode cX9_init 194 = .ok (.putfield 81, 3) := by decide +kernel
theorem dX9_init_197 : decode cX9_init 197 = .ok (.aload_n 0, 1) := by decide +kernel
theorem dX9_init_198 : decode cX9_init 198 = .ok (.getfield 26, 3) := by decide +kernel
theorem dX9_init_201 : decode cX9_init 201 = .ok (.invokestatic 84, 3) := by decide +kernel
theorem dX9_init_204 : decode cX9_init 204 = .ok (.aload_n 0, 1) := by decide +kernel
theorem dX9_init_205 : decode cX9_init 205 = .ok (.getfield 7, 3) := by decide +kernel
theorem dX9_init_208 : decode cX9_init 208 = .ok (.invokestatic 84, 3) := by decide +kernel
theorem dX9_init_211 : decode cX9_init 211 = .ok (.aload_n 0, 1) := by decide +kernel
theorem dX9_init_212 : decode cX9_init 212 = .ok (.iconst 2, 1) := by decide +kernel
theorem dX9_init_213 : decode cX9_init 213 = .ok (.putfield 88, 3) := by decide +kernel
theorem dX9_init_216 : decode cX9_init 216 = .ok (.aload_n 0, 1) := by decide +kernel
theorem dX9_init_217 : decode cX9_init 217 = .ok (.getfield 13, 3) := by decide +kernel
theorem dX9_init_220 : decode cX9_init 220 = .ok (.iconst 1, 1) := by decide +kernel
theorem dX9_init_221 : decode cX9_init 221 = .ok (.iconst 1, 1) := by decide +kernel
theorem dX9_init_222 : decode cX9_init 222 = .ok (.iastore, 1) := by decide +kernel
theorem dX9_init_223 : decode cX9_init 223 = .ok (.aload_n 0, 1) := by decide +kernel
theorem dX9_init_224 : decode cX9_init 224 = .ok (.getfield 16, 3) := by decide +kernel
theorem dX9_init_227 : decode cX9_init 227 = .ok (.bipush 61, 2) := by decide +kernel
theorem dX9_init_229 : decode cX9_init 229 = .ok (.ldc2_w 92, 3) := by decide +kernel
theorem dX9_init_232 : decode cX9_init 232 = .ok (.lastore, 1) := by decide +kernel
theorem dX9_init_233 : decode cX9_init 233 = .ok (.aload_n 0, 1) := by decide +kernel
theorem dX9_init_234 : decode cX9_init 234 = .ok (.getfield 16, 3) := by decide +kernel
theorem dX9_init_237 : decode cX9_init 237 = .ok (.bipush 62, 2) := by decide +kernel
theorem dX9_init_239 : decode cX9_init 239 = .ok (.ldc2_w 94, 3) := by decide +kernel
theorem dX9_init_242 : decode cX9_init 242 = .ok (.lastore, 1) := by decide +kernel
theorem dX9_init_243 : decode cX9_init 243 = .ok (.return_, 1) := by decide +kernel
theorem dX9_within_0 : decode cX9_within 0 = .ok (.lload_n 0, 1) := by decide +kernel
theorem dX9_within_1 : decode cX9_within 1 = .ok (.lload_n 2, 1) := by decide +kernel
theorem dX9_within_2 : decode cX9_within 2 = .ok (.lcmp, 1) := by decide +kernel
theorem dX9_within_3 : decode cX9_within 3 = .ok (.ifCond .lt 14, 3) := by decide +kernel
theorem dX9_within_6 : decode cX9_within 6 = .ok (.lload_n 0, 1) := by decide +kernel
theorem dX9_within_7 : decode cX9_within 7 = .ok (.lload 4, 2) := by decide +kernel
theorem dX9_within_9 : decode cX9_within 9 = .ok (.lcmp, 1) := by decide +kernel
theorem dX9_within_10 : decode cX9_within 10 = .ok (.ifCond .gt 7, 3) := by decide +kernel
theorem dX9_within_13 : decode cX9_within 13 = .ok (.iconst 1, 1) := by decide +kernel
theorem dX9_within_14 : decode cX9_within 14 = .ok (.goto 4, 3) := by decide +kernel
theorem dX9_within_17 : decode cX9_within 17 = .ok (.iconst 0, 1) := by decide +kernel
theorem dX9_within_18 : decode cX9_within 18 = .ok (.ireturn, 1) := by decide +kernel
theorem dX9_plans_0 : decode cX9_plans 0 = .ok (.aload_n 0, 1) := by decide +kernel
theorem dX9_plans_1 : decode cX9_plans 1 = .ok (.iconst 0, 1) := by decide +kernel
theorem dX9_plans_2 : decode cX9_plans 2 = .ok (.bipush 8, 2) := by decide +kernel
theorem dX9_plans_4 : decode cX9_plans 4 = .ok (.iastore, 1) := by decide +kernel
theorem dX9_plans_5 : decode cX9_plans 5 = .ok (.aload_n 0, 1) := by decide +kernel
theorem dX9_plans_6 : decode cX9_plans 6 = .ok (.iconst 1, 1) := by decide +kernel
theorem dX9_plans_7 : decode cX9_plans 7 = .ok (.iconst 4, 1) := by decide +kernel
theorem dX9_plans_8 : decode cX9_plans 8 = .ok (.iastore, 1) := by decide +kernel
theorem dX9_plans_9 : decode cX9_plans 9 = .ok (.aload_n 0, 1) := by decide +kernel
theorem dX9_plans_10 : decode cX9_plans 10 = .ok (.iconst 2, 1) := by decide +kernel
theorem dX9_plans_11 : decode cX9_plans 11 = .ok (.bipush 6, 2) := by decide +kernel
theorem dX9_plans_13 : decode cX9_plans 13 = .ok (.iastore, 1) := by decide +kernel
theorem dX9_plans_14 : decode cX9_plans 14 = .ok (.aload_n 0, 1) := by decide +kernel
theorem dX9_plans_15 : decode cX9_plans 15 = .ok (.iconst 3, 1) := by decide +kernel
theorem dX9_plans_16 : decode cX9_plans 16 = .ok (.iconst 1, 1) := by decide +kernel
theorem dX9_plans_17 : decode cX9_plans 17 = .ok (.iastore, 1) := by decide +kernel
theorem dX9_plans_18 : decode cX9_plans 18 = .ok (.aload_n 0, 1) := by decide +kernel
theorem dX9_plans_19 : decode cX9_plans 19 = .ok (.iconst 4, 1) := by decide +kernel
theorem dX9_plans_20 : decode cX9_plans 20 = .ok (.iconst 1, 1) := by decide +kernel
theorem dX9_plans_21 : decode cX9_plans 21 = .ok (.iastore, 1) := by decide +kernel
theorem dX9_plans_22 : decode cX9_plans 22 = .ok (.aload_n 0, 1) := by decide +kernel
theorem dX9_plans_23 : decode cX9_plans 23 = .ok (.iconst 5, 1) := by decide +kernel
theorem dX9_plans_24 : decode cX9_plans 24 = .ok (.bipush 7, 2) := by decide +kernel
theorem dX9_plans_26 : decode cX9_plans 26 = .ok (.iastore, 1) := by decide +kernel
theorem dX9_plans_27 : decode cX9_plans 27 = .ok (.aload_n 0, 1) := by decide +kernel
theorem dX9_plans_28 : decode cX9_plans 28 = .ok (.bipush 6, 2) := by decide +kernel
theorem dX9_plans_30 : decode cX9_plans 30 = .ok (.iconst 2, 1) := by decide +kernel
theorem dX9_plans_31 : decode cX9_plans 31 = .ok (.iastore, 1) := by decide +kernel
theorem dX9_plans_32 : decode cX9_plans 32 = .ok (.return_, 1) := by decide +kernel
theorem dX9_passes_0 : decode cX9_passes 0 = .ok (.aload_n 0, 1) := by decide +kernel
theorem dX9_passes_1 : decode cX9_passes 1 = .ok (.getfield 96, 3) := by decide +kernel
theorem dX9_passes_4 : decode cX9_passes 4 = .ok (.aload_n 0, 1) := by decide +kernel
theorem dX9_passes_5 : decode cX9_passes 5 = .ok (.getfield 99, 3) := by decide +kernel
theorem dX9_passes_8 : decode cX9_passes 8 = .ok (.if_icmp .ge 20, 3) := by decide +kernel
theorem dX9_passes_11 : decode cX9_passes 11 = .ok (.aload_n 0, 1) := by decide +kernel
theorem dX9_passes_12 : decode cX9_passes 12 = .ok (.getfield 23, 3) := by decide +kernel
theorem dX9_passes_15 : decode cX9_passes 15 = .ok (.aload_n 0, 1) := by decide +kernel
theorem dX9_passes_16 : decode cX9_passes 16 = .ok (.getfield 96, 3) := by decide +kernel
theorem dX9_passes_19 : decode cX9_passes 19 = .ok (.iaload, 1) := by decide +kernel
theorem dX9_passes_20 : decode cX9_passes 20 = .ok (.iload_n 1, 1) := by decide +kernel
theorem dX9_passes_21 : decode cX9_passes 21 = .ok (.if_icmp .ne 7, 3) := by decide +kernel
theorem dX9_passes_24 : decode cX9_passes 24 = .ok (.iconst 1, 1) := by decide +kernel
theorem dX9_passes_25 : decode cX9_passes 25 = .ok (.goto 4, 3) := by decide +kernel
theorem dX9_passes_28 : decode cX9_passes 28 = .ok (.iconst 0, 1) := by decide +kernel
theorem dX9_passes_29 : decode cX9_passes 29 = .ok (.istore_n 2, 1) := by decide +kernel
theorem dX9_passes_30 : decode cX9_passes 30 = .ok (.aload_n 0, 1) := by decide +kernel
theorem dX9_passes_31 : decode cX9_passes 31 = .ok (.dup, 1) := by decide +kernel
theorem dX9_passes_32 : decode cX9_passes 32 = .ok (.getfield 96, 3) := by decide +kernel
theorem dX9_passes_35 : decode cX9_passes 35 = .ok (.iload_n 2, 1) := by decide +kernel
theorem dX9_passes_36 : decode cX9_passes 36 = .ok (.ifCond .eq 7, 3) := by decide +kernel
theorem dX9_passes_39 : decode cX9_passes 39 = .ok (.iconst 1, 1) := by decide +kernel
theorem dX9_passes_40 : decode cX9_passes 40 = .ok (.goto 4, 3) := by decide +kernel
theorem dX9_passes_43 : decode cX9_passes 43 = .ok (.iconst 0, 1) := by decide +kernel
theorem dX9_passes_44 : decode cX9_passes 44 = .ok (.iadd, 1) := by decide +kernel
theorem dX9_passes_45 : decode cX9_passes 45 = .ok (.putfield 96, 3) := by decide +kernel
theorem dX9_passes_48 : decode cX9_passes 48 = .ok (.iload_n 2, 1) := by decide +kernel
theorem dX9_passes_49 : decode cX9_passes 49 = .ok (.ireturn, 1) := by decide +kernel
theorem dX9_isFigure_0 : decode cX9_isFigure 0 = .ok (.aload_n 0, 1) := by decide +kernel
theorem dX9_isFigure_1 : decode cX9_isFigure 1 = .ok (.getfield 96, 3) := by decide +kernel
theorem dX9_isFigure_4 : decode cX9_isFigure 4 = .ok (.aload_n 0, 1) := by decide +kernel
theorem dX9_isFigure_5 : decode cX9_isFigure 5 = .ok (.getfield 99, 3) := by decide +kernel
theorem dX9_isFigure_8 : decode cX9_isFigure 8 = .ok (.if_icmp .ge 29, 3) := by decide +kernel
theorem dX9_isFigure_11 : decode cX9_isFigure 11 = .ok (.aload_n 0, 1) := by decide +kernel
theorem dX9_isFigure_12 : decode cX9_isFigure 12 = .ok (.getfield 23, 3) := by decide +kernel
theorem dX9_isFigure_15 : decode cX9_isFigure 15 = .ok (.aload_n 0, 1) := by decide +kernel
theorem dX9_isFigure_16 : decode cX9_isFigure 16 = .ok (.getfield 96, 3) := by decide +kernel
theorem dX9_isFigure_19 : decode cX9_isFigure 19 = .ok (.iaload, 1) := by decide +kernel
theorem dX9_isFigure_20 : decode cX9_isFigure 20 = .ok (.i2l, 1) := by decide +kernel
theorem dX9_isFigure_21 : decode cX9_isFigure 21 = .ok (.ldc2_w 102, 3) := by decide +kernel
theorem dX9_isFigure_24 : decode cX9_isFigure 24 = .ok (.ldc2_w 104, 3) := by decide +kernel
theorem dX9_isFigure_27 : decode cX9_isFigure 27 = .ok (.invokestatic 106, 3) := by decide +kernel
theorem dX9_isFigure_30 : decode cX9_isFigure 30 = .ok (.ifCond .eq 7, 3) := by decide +kernel
theorem dX9_isFigure_33 : decode cX9_isFigure 33 = .ok (.iconst 1, 1) := by decide +kernel
theorem dX9_isFigure_34 : decode cX9_isFigure 34 = .ok (.goto 4, 3) := by decide +kernel
theorem dX9_isFigure_37 : decode cX9_isFigure 37 = .ok (.iconst 0, 1) := by decide +kernel
theorem dX9_isFigure_38 : decode cX9_isFigure 38 = .ok (.ireturn, 1) := by decide +kernel
theorem dX9_number_0 : decode cX9_number 0 = .ok (.aload_n 0, 1) := by decide +kernel
theorem dX9_number_1 : decode cX9_number 1 = .ok (.invokevirtual 110, 3) := by decide +kernel
theorem dX9_number_4 : decode cX9_number 4 = .ok (.ifCond .ne 5, 3) := by decide +kernel
theorem dX9_number_7 : decode cX9_number 7 = .ok (.iconst (-1), 1) := by decide +kernel
theorem dX9_number_8 : decode cX9_number 8 = .ok (.ireturn, 1) := by decide +kernel
theorem dX9_number_9 : decode cX9_number 9 = .ok (.aload_n 0, 1) := by decide +kernel
theorem dX9_number_10 : decode cX9_number 10 = .ok (.getfield 23, 3) := by decide +kernel
theorem dX9_number_13 : decode cX9_number 13 = .ok (.aload_n 0, 1) := by decide +kernel
theorem dX9_number_14 : decode cX9_number 14 = .ok (.getfield 96, 3) := by decide +kernel
theorem dX9_number_17 : decode cX9_number 17 = .ok (.iaload, 1) := by decide +kernel
theorem dX9_number_18 : decode cX9_number 18 = .ok (.bipush 48, 2) := by decide +kernel
theorem dX9_number_20 : decode cX9_number 20 = .ok (.isub, 1) := by decide +kernel
theorem dX9_number_21 : decode cX9_number 21 = .ok (.istore_n 3, 1) := by decide +kernel
theorem dX9_number_22 : decode cX9_number 22 = .ok (.aload_n 0, 1) := by decide +kernel
theorem dX9_number_23 : decode cX9_number 23 = .ok (.dup, 1) := by decide +kernel
theorem dX9_number_24 : decode cX9_number 24 = .ok (.getfield 96, 3) := by decide +kernel
theorem dX9_number_27 : decode cX9_number 27 = .ok (.iconst 1, 1) := by decide +kernel
theorem dX9_number_28 : decode cX9_number 28 = .ok (.iadd, 1) := by decide +kernel
theorem dX9_number_29 : decode cX9_number 29 = .ok (.putfield 96, 3) := by decide +kernel
theorem dX9_number_32 : decode cX9_number 32 = .ok (.aload_n 0, 1) := by decide +kernel
theorem dX9_number_33 : decode cX9_number 33 = .ok (.invokevirtual 110, 3) := by decide +kernel
theorem dX9_number_36 : decode cX9_number 36 = .ok (.ifCond .eq 31, 3) := by decide +kernel
theorem dX9_number_39 : decode cX9_number 39 = .ok (.bipush 10, 2) := by decide +kernel
theorem dX9_number_41 : decode cX9_number 41 = .ok (.iload_n 3, 1) := by decide +kernel
theorem dX9_number_42 : decode cX9_number 42 = .ok (.imul, 1) := by decide +kernel
theorem dX9_number_43 : decode cX9_number 43 = .ok (.aload_n 0, 1) := by decide +kernel
theorem dX9_number_44 : decode cX9_number 44 = .ok (.getfield 23, 3) := by decide +kernel
theorem dX9_number_47 : decode cX9_number 47 = .ok (.aload_n 0, 1) := by decide +kernel
theorem dX9_number_48 : decode cX9_number 48 = .ok (.getfield 96, 3) := by decide +kernel
theorem dX9_number_51 : decode cX9_number 51 = .ok (.iaload, 1) := by decide +kernel
theorem dX9_number_52 : decode cX9_number 52 = .ok (.iadd, 1) := by decide +kernel
theorem dX9_number_53 : decode cX9_number 53 = .ok (.bipush 48, 2) := by decide +kernel
theorem dX9_number_55 : decode cX9_number 55 = .ok (.isub, 1) := by decide +kernel
theorem dX9_number_56 : decode cX9_number 56 = .ok (.istore_n 3, 1) := by decide +kernel
theorem dX9_number_57 : decode cX9_number 57 = .ok (.aload_n 0, 1) := by decide +kernel
theorem dX9_number_58 : decode cX9_number 58 = .ok (.dup, 1) := by decide +kernel
theorem dX9_number_59 : decode cX9_number 59 = .ok (.getfield 96, 3) := by decide +kernel
theorem dX9_number_62 : decode cX9_number 62 = .ok (.iconst 1, 1) := by decide +kernel
theorem dX9_number_63 : decode cX9_number 63 = .ok (.iadd, 1) := by decide +kernel
theorem dX9_number_64 : decode cX9_number 64 = .ok (.putfield 96, 3) := by decide +kernel
theorem dX9_number_67 : decode cX9_number 67 = .ok (.iload_n 3, 1) := by decide +kernel
theorem dX9_number_68 : decode cX9_number 68 = .ok (.i2l, 1) := by decide +kernel
theorem dX9_number_69 : decode cX9_number 69 = .ok (.iload_n 1, 1) := by decide +kernel
theorem dX9_number_70 : decode cX9_number 70 = .ok (.i2l, 1) := by decide +kernel
theorem dX9_number_71 : decode cX9_number 71 = .ok (.iload_n 2, 1) := by decide +kernel
theorem dX9_number_72 : decode cX9_number 72 = .ok (.i2l, 1) := by decide +kernel
theorem dX9_number_73 : decode cX9_number 73 = .ok (.invokestatic 106, 3) := by decide +kernel
theorem dX9_number_76 : decode cX9_number 76 = .ok (.ifCond .eq 7, 3) := by decide +kernel
theorem dX9_number_79 : decode cX9_number 79 = .ok (.iload_n 3, 1) := by decide +kernel
theorem dX9_number_80 : decode cX9_number 80 = .ok (.goto 4, 3) := by decide +kernel
theorem dX9_number_83 : decode cX9_number 83 = .ok (.iconst (-1), 1) := by decide +kernel
theorem dX9_number_84 : decode cX9_number 84 = .ok (.ireturn, 1) := by decide +kernel
theorem dX9_isGate_0 : decode cX9_isGate 0 = .ok (.aload_n 0, 1) := by decide +kernel
theorem dX9_isGate_1 : decode cX9_isGate 1 = .ok (.iconst 4, 1) := by decide +kernel
theorem dX9_isGate_2 : decode cX9_isGate 2 = .ok (.bipush 16, 2) := by decide +kernel
theorem dX9_isGate_4 : decode cX9_isGate 4 = .ok (.invokevirtual 114, 3) := by decide +kernel
theorem dX9_isGate_7 : decode cX9_isGate 7 = .ok (.istore_n 1, 1) := by decide +kernel
theorem dX9_isGate_8 : decode cX9_isGate 8 = .ok (.iload_n 1, 1) := by decide +kernel
theorem dX9_isGate_9 : decode cX9_isGate 9 = .ok (.ifCond .le 21, 3) := by decide +kernel
theorem dX9_isGate_12 : decode cX9_isGate 12 = .ok (.aload_n 0, 1) := by decide +kernel
theorem dX9_isGate_13 : decode cX9_isGate 13 = .ok (.bipush 44, 2) := by decide +kernel
theorem dX9_isGate_15 : decode cX9_isGate 15 = .ok (.invokevirtual 118, 3) := by decide +kernel
theorem dX9_isGate_18 : decode cX9_isGate 18 = .ok (.ifCond .eq 12, 3) := by decide +kernel
theorem dX9_isGate_21 : decode cX9_isGate 21 = .ok (.aload_n 0, 1) := by decide +kernel
theorem dX9_isGate_22 : decode cX9_isGate 22 = .ok (.iconst 1, 1) := by decide +kernel
theorem dX9_isGate_23 : decode cX9_isGate 23 = .ok (.iload_n 1, 1) := by decide +kernel
theorem dX9_isGate_24 : decode cX9_isGate 24 = .ok (.invokevirtual 114, 3) := by decide +kernel
theorem dX9_isGate_27 : decode cX9_isGate 27 = .ok (.goto 4, 3) := by decide +kernel
theorem dX9_isGate_30 : decode cX9_isGate 30 = .ok (.iconst (-1), 1) := by decide +kernel
theorem dX9_isGate_31 : decode cX9_isGate 31 = .ok (.istore_n 2, 1) := by decide +kernel
theorem dX9_isGate_32 : decode cX9_isGate 32 = .ok (.iload_n 2, 1) := by decide +kernel
theorem dX9_isGate_33 : decode cX9_isGate 33 = .ok (.ifCond .le 28, 3) := by decide +kernel
theorem dX9_isGate_36 : decode cX9_isGate 36 = .ok (.iload_n 1, 1) := by decide +kernel
theorem dX9_isGate_37 : decode cX9_isGate 37 = .ok (.iload_n 2, 1) := by decide +kernel
theorem dX9_isGate_38 : decode cX9_isGate 38 = .ok (.irem, 1) := by decide +kernel
theorem dX9_isGate_39 : decode cX9_isGate 39 = .ok (.ifCond .ne 22, 3) := by decide +kernel
theorem dX9_isGate_42 : decode cX9_isGate 42 = .ok (.aload_n 0, 1) := by decide +kernel
theorem dX9_isGate_43 : decode cX9_isGate 43 = .ok (.bipush 44, 2) := by decide +kernel
theorem dX9_isGate_45 : decode cX9_isGate 45 = .ok (.invokevirtual 118, 3) := by decide +kernel
theorem dX9_isGate_48 : decode cX9_isGate 48 = .ok (.ifCond .eq 13, 3) := by decide +kernel
theorem dX9_isGate_51 : decode cX9_isGate 51 = .ok (.aload_n 0, 1) := by decide +kernel
theorem dX9_isGate_52 : decode cX9_isGate 52 = .ok (.iconst 0, 1) := by decide +kernel
theorem dX9_isGate_53 : decode cX9_isGate 53 = .ok (.bipush 20, 2) := by decide +kernel
theorem dX9_isGate_55 : decode cX9_isGate 55 = .ok (.invokevirtual 114, 3) := by decide +kernel
theorem dX9_isGate_58 : decode cX9_isGate 58 = .ok (.goto 4, 3) := by decide +kernel
theorem dX9_isGate_61 : decode cX9_isGate 61 = .ok (.iconst (-1), 1) := by decide +kernel
theorem dX9_isGate_62 : decode cX9_isGate 62 = .ok (.istore_n 3, 1) := by decide +kernel
theorem dX9_isGate_63 : decode cX9_isGate 63 = .ok (.iload_n 3, 1) := by decide +kernel
theorem dX9_isGate_64 : decode cX9_isGate 64 = .ok (.ifCond .lt 21, 3) := by decide +kernel
theorem dX9_isGate_67 : decode cX9_isGate 67 = .ok (.aload_n 0, 1) := by decide +kernel
theorem dX9_isGate_68 : decode cX9_isGate 68 = .ok (.bipush 44, 2) := by decide +kernel
theorem dX9_isGate_70 : decode cX9_isGate 70 = .ok (.invokevirtual 118, 3) := by decide +kernel
theorem dX9_isGate_73 : decode cX9_isGate 73 = .ok (.ifCond .eq 12, 3) := by decide +kernel
theorem dX9_isGate_76 : decode cX9_isGate 76 = .ok (.aload_n 0, 1) := by decide +kernel
theorem dX9_isGate_77 : decode cX9_isGate 77 = .ok (.iconst 0, 1) := by decide +kernel
theorem dX9_isGate_78 : decode cX9_isGate 78 = .ok (.iconst 5, 1) := by decide +kernel
theorem dX9_isGate_79 : decode cX9_isGate 79 = .ok (.invokevirtual 114, 3) := by decide +kernel
theorem dX9_isGate_82 : decode cX9_isGate 82 = .ok (.goto 4, 3) := by decide +kernel
theorem dX9_isGate_85 : decode cX9_isGate 85 = .ok (.iconst (-1), 1) := by decide +kernel
theorem dX9_isGate_86 : decode cX9_isGate 86 = .ok (.istore 4, 2) := by decide +kernel
theorem dX9_isGate_88 : decode cX9_isGate 88 = .ok (.iload 4, 2) := by decide +kernel
theorem dX9_isGate_90 : decode cX9_isGate 90 = .ok (.ifCond .lt 21, 3) := by decide +kernel
theorem dX9_isGate_93 : decode cX9_isGate 93 = .ok (.aload_n 0, 1) := by decide +kernel
theorem dX9_isGate_94 : decode cX9_isGate 94 = .ok (.bipush 44, 2) := by decide +kernel
theorem dX9_isGate_96 : decode cX9_isGate 96 = .ok (.invokevirtual 118, 3) := by decide +kernel
theorem dX9_isGate_99 : decode cX9_isGate 99 = .ok (.ifCond .eq 12, 3) := by decide +kernel
theorem dX9_isGate_102 : decode cX9_isGate 102 = .ok (.aload_n 0, 1) := by decide +kernel
theorem dX9_isGate_103 : decode cX9_isGate 103 = .ok (.iconst 0, 1) := by decide +kernel
theorem dX9_isGate_104 : decode cX9_isGate 104 = .ok (.iconst 5, 1) := by decide +kernel
theorem dX9_isGate_105 : decode cX9_isGate 105 = .ok (.invokevirtual 114, 3) := by decide +kernel
theorem dX9_isGate_108 : decode cX9_isGate 108 = .ok (.goto 4, 3) := by decide +kernel
theorem dX9_isGate_111 : decode cX9_isGate 111 = .ok (.iconst (-1), 1) := by decide +kernel
theorem dX9_isGate_112 : decode cX9_isGate 112 = .ok (.istore 5, 2) := by decide +kernel
theorem dX9_isGate_114 : decode cX9_isGate 114 = .ok (.aload_n 0, 1) := by decide +kernel
theorem dX9_isGate_115 : decode cX9_isGate 115 = .ok (.getfield 26, 3) := by decide +kernel
theorem dX9_isGate_118 : decode cX9_isGate 118 = .ok (.iconst 0, 1) := by decide +kernel
theorem dX9_isGate_119 : decode cX9_isGate 119 = .ok (.iload_n 1, 1) := by decide +kernel
theorem dX9_isGate_120 : decode cX9_isGate 120 = .ok (.iastore, 1) := by decide +kernel
theorem dX9_isGate_121 : decode cX9_isGate 121 = .ok (.aload_n 0, 1) := by decide +kernel
theorem dX9_isGate_122 : decode cX9_isGate 122 = .ok (.getfield 26, 3) := by decide +kernel
theorem dX9_isGate_125 : decode cX9_isGate 125 = .ok (.iconst 1, 1) := by decide +kernel
theorem dX9_isGate_126 : decode cX9_isGate 126 = .ok (.iload_n 2, 1) := by decide +kernel
theorem dX9_isGate_127 : decode cX9_isGate 127 = .ok (.iastore, 1) := by decide +kernel
theorem dX9_isGate_128 : decode cX9_isGate 128 = .ok (.aload_n 0, 1) := by decide +kernel
theorem dX9_isGate_129 : decode cX9_isGate 129 = .ok (.getfield 26, 3) := by decide +kernel
theorem dX9_isGate_132 : decode cX9_isGate 132 = .ok (.iconst 2, 1) := by decide +kernel
theorem dX9_isGate_133 : decode cX9_isGate 133 = .ok (.iload_n 3, 1) := by decide +kernel
theorem dX9_isGate_134 : decode cX9_isGate 134 = .ok (.iastore, 1) := by decide +kernel
theorem dX9_isGate_135 : decode cX9_isGate 135 = .ok (.aload_n 0, 1) := by decide +kernel
theorem dX9_isGate_136 : decode cX9_isGate 136 = .ok (.getfield 26, 3) := by decide +kernel
theorem dX9_isGate_139 : decode cX9_isGate 139 = .ok (.iconst 3, 1) := by decide +kernel
theorem dX9_isGate_140 : decode cX9_isGate 140 = .ok (.iload 4, 2) := by decide +kernel
theorem dX9_isGate_142 : decode cX9_isGate 142 = .ok (.iastore, 1) := by decide +kernel
theorem dX9_isGate_143 : decode cX9_isGate 143 = .ok (.aload_n 0, 1) := by decide +kernel
theorem dX9_isGate_144 : decode cX9_isGate 144 = .ok (.getfield 26, 3) := by decide +kernel
theorem dX9_isGate_147 : decode cX9_isGate 147 = .ok (.iconst 4, 1) := by decide +kernel
theorem dX9_isGate_148 : decode cX9_isGate 148 = .ok (.iload 5, 2) := by decide +kernel
theorem dX9_isGate_150 : decode cX9_isGate 150 = .ok (.iastore, 1) := by decide +kernel
theorem dX9_isGate_151 : decode cX9_isGate 151 = .ok (.iload 5, 2) := by decide +kernel
theorem dX9_isGate_153 : decode cX9_isGate 153 = .ok (.ifCond .lt 7, 3) := by decide +kernel
theorem dX9_isGate_156 : decode cX9_isGate 156 = .ok (.iconst 1, 1) := by decide +kernel
theorem dX9_isGate_157 : decode cX9_isGate 157 = .ok (.goto 4, 3) := by decide +kernel
theorem dX9_isGate_160 : decode cX9_isGate 160 = .ok (.iconst 0, 1) := by decide +kernel
theorem dX9_isGate_161 : decode cX9_isGate 161 = .ok (.ireturn, 1) := by decide +kernel
theorem dX9_isRule_0 : decode cX9_isRule 0 = .ok (.aload_n 0, 1) := by decide +kernel
theorem dX9_isRule_1 : decode cX9_isRule 1 = .ok (.getfield 122, 3) := by decide +kernel
theorem dX9_isRule_4 : decode cX9_isRule 4 = .ok (.iconst 4, 1) := by decide +kernel
theorem dX9_isRule_5 : decode cX9_isRule 5 = .ok (.if_icmp .ne 5, 3) := by decide +kernel
theorem dX9_isRule_8 : decode cX9_isRule 8 = .ok (.iconst 0, 1) := by decide +kernel
theorem dX9_isRule_9 : decode cX9_isRule 9 = .ok (.ireturn, 1) := by decide +kernel
theorem dX9_isRule_10 : decode cX9_isRule 10 = .ok (.aload_n 0, 1) := by decide +kernel
theorem dX9_isRule_11 : decode cX9_isRule 11 = .ok (.getfield 29, 3) := by decide +kernel
theorem dX9_isRule_14 : decode cX9_isRule 14 = .ok (.aload_n 0, 1) := by decide +kernel
theorem dX9_isRule_15 : decode cX9_isRule 15 = .ok (.getfield 122, 3) := by decide +kernel
theorem dX9_isRule_18 : decode cX9_isRule 18 = .ok (.aload_n 0, 1) := by decide +kernel
theorem dX9_isRule_19 : decode cX9_isRule 19 = .ok (.iconst 0, 1) := by decide +kernel
theorem dX9_isRule_20 : decode cX9_isRule 20 = .ok (.iconst 3, 1) := by decide +kernel
theorem dX9_isRule_21 : decode cX9_isRule 21 = .ok (.invokevirtual 114, 3) := by decide +kernel
theorem dX9_isRule_24 : decode cX9_isRule 24 = .ok (.iastore, 1) := by decide +kernel
theorem dX9_isRule_25 : decode cX9_isRule 25 = .ok (.aload_n 0, 1) := by decide +kernel
theorem dX9_isRule_26 : decode cX9_isRule 26 = .ok (.getfield 32, 3) := by decide +kernel
theorem dX9_isRule_29 : decode cX9_isRule 29 = .ok (.aload_n 0, 1) := by decide +kernel
theorem dX9_isRule_30 : decode cX9_isRule 30 = .ok (.getfield 122, 3) := by decide +kernel
theorem dX9_isRule_33 : decode cX9_isRule 33 = .ok (.aload_n 0, 1) := by decide +kernel
theorem dX9_isRule_34 : decode cX9_isRule 34 = .ok (.getfield 29, 3) := by decide +kernel
theorem dX9_isRule_37 : decode cX9_isRule 37 = .ok (.aload_n 0, 1) := by decide +kernel
theorem dX9_isRule_38 : decode cX9_isRule 38 = .ok (.getfield 122, 3) := by decide +kernel
theorem dX9_isRule_41 : decode cX9_isRule 41 = .ok (.iaload, 1) := by decide +kernel
theorem dX9_isRule_42 : decode cX9_isRule 42 = .ok (.ifCond .lt 22, 3) := by decide +kernel
theorem dX9_isRule_45 : decode cX9_isRule 45 = .ok (.aload_n 0, 1) := by decide +kernel
theorem dX9_isRule_46 : decode cX9_isRule 46 = .ok (.bipush 44, 2) := by decide +kernel
theorem dX9_isRule_48 : decode cX9_isRule 48 = .ok (.invokevirtual 118, 3) := by decide +kernel
theorem dX9_isRule_51 : decode cX9_isRule 51 = .ok (.ifCond .eq 13, 3) := by decide +kernel
theorem dX9_isRule_54 : decode cX9_isRule 54 = .ok (.aload_n 0, 1) := by decide +kernel
theorem dX9_isRule_55 : decode cX9_isRule 55 = .ok (.iconst 1, 1) := by decide +kernel
theorem dX9_isRule_56 : decode cX9_isRule 56 = .ok (.bipush 99, 2) := by decide +kernel
theorem dX9_isRule_58 : decode cX9_isRule 58 = .ok (.invokevirtual 114, 3) := by decide +kernel
theorem dX9_isRule_61 : decode cX9_isRule 61 = .ok (.goto 4, 3) := by decide +kernel
theorem dX9_isRule_64 : decode cX9_isRule 64 = .ok (.iconst (-1), 1) := by decide +kernel
theorem dX9_isRule_65 : decode cX9_isRule 65 = .ok (.iastore, 1) := by decide +kernel
theorem dX9_isRule_66 : decode cX9_isRule 66 = .ok (.aload_n 0, 1) := by decide +kernel
theorem dX9_isRule_67 : decode cX9_isRule 67 = .ok (.dup, 1) := by decide +kernel
theorem dX9_isRule_68 : decode cX9_isRule 68 = .ok (.getfield 122, 3) := by decide +kernel
theorem dX9_isRule_71 : decode cX9_isRule 71 = .ok (.iconst 1, 1) := by decide +kernel
theorem dX9_isRule_72 : decode cX9_isRule 72 = .ok (.iadd, 1) := by decide +kernel
theorem dX9_isRule_73 : decode cX9_isRule 73 = .ok (.putfield 122, 3) := by decide +kernel
theorem dX9_isRule_76 : decode cX9_isRule 76 = .ok (.aload_n 0, 1) := by decide +kernel
theorem dX9_isRule_77 : decode cX9_isRule 77 = .ok (.getfield 32, 3) := by decide +kernel
theorem dX9_isRule_80 : decode cX9_isRule 80 = .ok (.aload_n 0, 1) := by decide +kernel
theorem dX9_isRule_81 : decode cX9_isRule 81 = .ok (.getfield 122, 3) := by decide +kernel
theorem dX9_isRule_84 : decode cX9_isRule 84 = .ok (.iconst 1, 1) := by decide +kernel
theorem dX9_isRule_85 : decode cX9_isRule 85 = .ok (.isub, 1) := by decide +kernel
theorem dX9_isRule_86 : decode cX9_isRule 86 = .ok (.iaload, 1) := by decide +kernel
theorem dX9_isRule_87 : decode cX9_isRule 87 = .ok (.ifCond .le 7, 3) := by decide +kernel
theorem dX9_isRule_90 : decode cX9_isRule 90 = .ok (.iconst 1, 1) := by decide +kernel
theorem dX9_isRule_91 : decode cX9_isRule 91 = .ok (.goto 4, 3) := by decide +kernel
theorem dX9_isRule_94 : decode cX9_isRule 94 = .ok (.iconst 0, 1) := by decide +kernel
theorem dX9_isRule_95 : decode cX9_isRule 95 = .ok (.ireturn, 1) := by decide +kernel
theorem dX9_isItem_0 : decode cX9_isItem 0 = .ok (.aload_n 0, 1) := by decide +kernel
theorem dX9_isItem_1 : decode cX9_isItem 1 = .ok (.bipush 103, 2) := by decide +kernel
theorem dX9_isItem_3 : decode cX9_isItem 3 = .ok (.invokevirtual 118, 3) := by decide +kernel
theorem dX9_isItem_6 : decode cX9_isItem 6 = .ok (.ifCond .eq 25, 3) := by decide +kernel
theorem dX9_isItem_9 : decode cX9_isItem 9 = .ok (.aload_n 0, 1) := by decide +kernel
theorem dX9_isItem_10 : decode cX9_isItem 10 = .ok (.invokevirtual 125, 3) := by decide +kernel
theorem dX9_isItem_13 : decode cX9_isItem 13 = .ok (.ifCond .eq 16, 3) := by decide +kernel
theorem dX9_isItem_16 : decode cX9_isItem 16 = .ok (.aload_n 0, 1) := by decide +kernel
theorem dX9_isItem_17 : decode cX9_isItem 17 = .ok (.bipush 59, 2) := by decide +kernel
theorem dX9_isItem_19 : decode cX9_isItem 19 = .ok (.invokevirtual 118, 3) := by decide +kernel
theorem dX9_isItem_22 : decode cX9_isItem 22 = .ok (.ifCond .eq 7, 3) := by decide +kernel
theorem dX9_isItem_25 : decode cX9_isItem 25 = .ok (.iconst 1, 1) := by decide +kernel
theorem dX9_isItem_26 : decode cX9_isItem 26 = .ok (.goto 4, 3) := by decide +kernel
theorem dX9_isItem_29 : decode cX9_isItem 29 = .ok (.iconst 0, 1) := by decide +kernel
theorem dX9_isItem_30 : decode cX9_isItem 30 = .ok (.ireturn, 1) := by decide +kernel
theorem dX9_isItem_31 : decode cX9_isItem 31 = .ok (.aload_n 0, 1) := by decide +kernel
theorem dX9_isItem_32 : decode cX9_isItem 32 = .ok (.bipush 114, 2) := by decide +kernel
theorem dX9_isItem_34 : decode cX9_isItem 34 = .ok (.invokevirtual 118, 3) := by decide +kernel
theorem dX9_isItem_37 : decode cX9_isItem 37 = .ok (.ifCond .eq 25, 3) := by decide +kernel
theorem dX9_isItem_40 : decode cX9_isItem 40 = .ok (.aload_n 0, 1) := by decide +kernel
theorem dX9_isItem_41 : decode cX9_isItem 41 = .ok (.invokevirtual 128, 3) := by decide +kernel
theorem dX9_isItem_44 : decode cX9_isItem 44 = .ok (.ifCond .eq 16, 3) := by decide +kernel
theorem dX9_isItem_47 : decode cX9_isItem 47 = .ok (.aload_n 0, 1) := by decide +kernel
theorem dX9_isItem_48 : decode cX9_isItem 48 = .ok (.bipush 59, 2) := by decide +kernel
theorem dX9_isItem_50 : decode cX9_isItem 50 = .ok (.invokevirtual 118, 3) := by decide +kernel
theorem dX9_isItem_53 : decode cX9_isItem 53 = .ok (.ifCond .eq 7, 3) := by decide +kernel
theorem dX9_isItem_56 : decode cX9_isItem 56 = .ok (.iconst 1, 1) := by decide +kernel
theorem dX9_isItem_57 : decode cX9_isItem 57 = .ok (.goto 4, 3) := by decide +kernel
theorem dX9_isItem_60 : decode cX9_isItem 60 = .ok (.iconst 0, 1) := by decide +kernel
theorem dX9_isItem_61 : decode cX9_isItem 61 = .ok (.ireturn, 1) := by decide +kernel
theorem dX9_isItem_62 : decode cX9_isItem 62 = .ok (.aload_n 0, 1) := by decide +kernel
theorem dX9_isItem_63 : decode cX9_isItem 63 = .ok (.bipush 100, 2) := by decide +kernel
theorem dX9_isItem_65 : decode cX9_isItem 65 = .ok (.invokevirtual 118, 3) := by decide +kernel
theorem dX9_isItem_68 : decode cX9_isItem 68 = .ok (.ifCond .eq 7, 3) := by decide +kernel
theorem dX9_isItem_71 : decode cX9_isItem 71 = .ok (.iconst 5, 1) := by decide +kernel
theorem dX9_isItem_72 : decode cX9_isItem 72 = .ok (.goto 18, 3) := by decide +kernel
theorem dX9_isItem_75 : decode cX9_isItem 75 = .ok (.aload_n 0, 1) := by decide +kernel
theorem dX9_isItem_76 : decode cX9_isItem 76 = .ok (.bipush 113, 2) := by decide +kernel
theorem dX9_isItem_78 : decode cX9_isItem 78 = .ok (.invokevirtual 118, 3) := by decide +kernel
theorem dX9_isItem_81 : decode cX9_isItem 81 = .ok (.ifCond .eq 8, 3) := by decide +kernel
theorem dX9_isItem_84 : decode cX9_isItem 84 = .ok (.bipush 6, 2) := by decide +kernel
theorem dX9_isItem_86 : decode cX9_isItem 86 = .ok (.goto 4, 3) := by decide +kernel
theorem dX9_isItem_89 : decode cX9_isItem 89 = .ok (.iconst (-1), 1) := by decide +kernel
theorem dX9_isItem_90 : decode cX9_isItem 90 = .ok (.istore_n 1, 1) := by decide +kernel
theorem dX9_isItem_91 : decode cX9_isItem 91 = .ok (.iload_n 1, 1) := by decide +kernel
theorem dX9_isItem_92 : decode cX9_isItem 92 = .ok (.ifCond .ge 5, 3) := by decide +kernel
theorem dX9_isItem_95 : decode cX9_isItem 95 = .ok (.iconst 0, 1) := by decide +kernel
theorem dX9_isItem_96 : decode cX9_isItem 96 = .ok (.ireturn, 1) := by decide +kernel
theorem dX9_isItem_97 : decode cX9_isItem 97 = .ok (.aload_n 0, 1) := by decide +kernel
theorem dX9_isItem_98 : decode cX9_isItem 98 = .ok (.getfield 26, 3) := by decide +kernel
theorem dX9_isItem_101 : decode cX9_isItem 101 = .ok (.iload_n 1, 1) := by decide +kernel
theorem dX9_isItem_102 : decode cX9_isItem 102 = .ok (.aload_n 0, 1) := by decide +kernel
theorem dX9_isItem_103 : decode cX9_isItem 103 = .ok (.iload_n 1, 1) := by decide +kernel
theorem dX9_isItem_104 : decode cX9_isItem 104 = .ok (.iconst 5, 1) := by decide +kernel
theorem dX9_isItem_105 : decode cX9_isItem 105 = .ok (.if_icmp .ne 7, 3) := by decide +kernel
theorem dX9_isItem_108 : decode cX9_isItem 108 = .ok (.iconst 1, 1) := by decide +kernel
theorem dX9_isItem_109 : decode cX9_isItem 109 = .ok (.goto 4, 3) := by decide +kernel
theorem dX9_isItem_112 : decode cX9_isItem 112 = .ok (.iconst 0, 1) := by decide +kernel
theorem dX9_isItem_113 : decode cX9_isItem 113 = .ok (.bipush 9, 2) := by decide +kernel
theorem dX9_isItem_115 : decode cX9_isItem 115 = .ok (.invokevirtual 114, 3) := by decide +kernel
theorem dX9_isItem_118 : decode cX9_isItem 118 = .ok (.iastore, 1) := by decide +kernel
theorem dX9_isItem_119 : decode cX9_isItem 119 = .ok (.aload_n 0, 1) := by decide +kernel
theorem dX9_isItem_120 : decode cX9_isItem 120 = .ok (.getfield 26, 3) := by decide +kernel
theorem dX9_isItem_123 : decode cX9_isItem 123 = .ok (.iload_n 1, 1) := by decide +kernel
theorem dX9_isItem_124 : decode cX9_isItem 124 = .ok (.iaload, 1) := by decide +kernel
theorem dX9_isItem_125 : decode cX9_isItem 125 = .ok (.ifCond .lt 16, 3) := by decide +kernel
theorem dX9_isItem_128 : decode cX9_isItem 128 = .ok (.aload_n 0, 1) := by decide +kernel
theorem dX9_isItem_129 : decode cX9_isItem 129 = .ok (.bipush 59, 2) := by decide +kernel
theorem dX9_isItem_131 : decode cX9_isItem 131 = .ok (.invokevirtual 118, 3) := by decide +kernel
theorem dX9_isItem_134 : decode cX9_isItem 134 = .ok (.ifCond .eq 7, 3) := by decide +kernel
theorem dX9_isItem_137 : decode cX9_isItem 137 = .ok (.iconst 1, 1) := by decide +kernel
theorem dX9_isItem_138 : decode cX9_isItem 138 = .ok (.goto 4, 3) := by decide +kernel
theorem dX9_isItem_141 : decode cX9_isItem 141 = .ok (.iconst 0, 1) := by decide +kernel
theorem dX9_isItem_142 : decode cX9_isItem 142 = .ok (.ireturn, 1) := by decide +kernel
theorem dX9_faultAt_0 : decode cX9_faultAt 0 = .ok (.aload_n 0, 1) := by decide +kernel
theorem dX9_faultAt_1 : decode cX9_faultAt 1 = .ok (.getfield 26, 3) := by decide +kernel
theorem dX9_faultAt_4 : decode cX9_faultAt 4 = .ok (.invokestatic 84, 3) := by decide +kernel
theorem dX9_faultAt_7 : decode cX9_faultAt 7 = .ok (.aload_n 0, 1) := by decide +kernel
theorem dX9_faultAt_8 : decode cX9_faultAt 8 = .ok (.iconst 0, 1) := by decide +kernel
theorem dX9_faultAt_9 : decode cX9_faultAt 9 = .ok (.putfield 122, 3) := by decide +kernel
theorem dX9_faultAt_12 : decode cX9_faultAt 12 = .ok (.aload_n 0, 1) := by decide +kernel
theorem dX9_faultAt_13 : decode cX9_faultAt 13 = .ok (.iconst 0, 1) := by decide +kernel
theorem dX9_faultAt_14 : decode cX9_faultAt 14 = .ok (.putfield 96, 3) := by decide +kernel
theorem dX9_faultAt_17 : decode cX9_faultAt 17 = .ok (.aload_n 0, 1) := by decide +kernel
theorem dX9_faultAt_18 : decode cX9_faultAt 18 = .ok (.getfield 96, 3) := by decide +kernel
theorem dX9_faultAt_21 : decode cX9_faultAt 21 = .ok (.aload_n 0, 1) := by decide +kernel
theorem dX9_faultAt_22 : decode cX9_faultAt 22 = .ok (.getfield 99, 3) := by decide +kernel
theorem dX9_faultAt_25 : decode cX9_faultAt 25 = .ok (.if_icmp .ge 20, 3) := by decide +kernel
theorem dX9_faultAt_28 : decode cX9_faultAt 28 = .ok (.aload_n 0, 1) := by decide +kernel
theorem dX9_faultAt_29 : decode cX9_faultAt 29 = .ok (.getfield 96, 3) := by decide +kernel
theorem dX9_faultAt_32 : decode cX9_faultAt 32 = .ok (.istore_n 1, 1) := by decide +kernel
theorem dX9_faultAt_33 : decode cX9_faultAt 33 = .ok (.aload_n 0, 1) := by decide +kernel
theorem dX9_faultAt_34 : decode cX9_faultAt 34 = .ok (.invokevirtual 131, 3) := by decide +kernel
theorem dX9_faultAt_37 : decode cX9_faultAt 37 = .ok (.ifCond .ne 5, 3) := by decide +kernel
theorem dX9_faultAt_40 : decode cX9_faultAt 40 = .ok (.iload_n 1, 1) := by decide +kernel
theorem dX9_faultAt_41 : decode cX9_faultAt 41 = .ok (.ireturn, 1) := by decide +kernel
theorem dX9_faultAt_42 : decode cX9_faultAt 42 = .ok (.goto (-25), 3) := by decide +kernel
theorem dX9_faultAt_45 : decode cX9_faultAt 45 = .ok (.bipush (-4), 2) := by decide +kernel
theorem dX9_faultAt_47 : decode cX9_faultAt 47 = .ok (.ireturn, 1) := by decide +kernel
theorem dX9_write_0 : decode cX9_write 0 = .ok (.iload_n 1, 1) := by decide +kernel
theorem dX9_write_1 : decode cX9_write 1 = .ok (.i2l, 1) := by decide +kernel
theorem dX9_write_2 : decode cX9_write 2 = .ok (.ldc2_w 134, 3) := by decide +kernel
theorem dX9_write_5 : decode cX9_write 5 = .ok (.ldc2_w 136, 3) := by decide +kernel
theorem dX9_write_8 : decode cX9_write 8 = .ok (.invokestatic 106, 3) := by decide +kernel
theorem dX9_write_11 : decode cX9_write 11 = .ok (.ifCond .ne 5, 3) := by decide +kernel
theorem dX9_write_14 : decode cX9_write 14 = .ok (.iconst (-1), 1) := by decide +kernel
theorem dX9_write_15 : decode cX9_write 15 = .ok (.ireturn, 1) := by decide +kernel
theorem dX9_write_16 : decode cX9_write 16 = .ok (.aload_n 0, 1) := by decide +kernel
theorem dX9_write_17 : decode cX9_write 17 = .ok (.getfield 99, 3) := by decide +kernel
theorem dX9_write_20 : decode cX9_write 20 = .ok (.sipush 200, 3) := by decide +kernel
theorem dX9_write_23 : decode cX9_write 23 = .ok (.if_icmp .ne 6, 3) := by decide +kernel
theorem dX9_write_26 : decode cX9_write 26 = .ok (.bipush (-3), 2) := by decide +kernel
theorem dX9_write_28 : decode cX9_write 28 = .ok (.ireturn, 1) := by decide +kernel
theorem dX9_write_29 : decode cX9_write 29 = .ok (.aload_n 0, 1) := by decide +kernel
theorem dX9_write_30 : decode cX9_write 30 = .ok (.getfield 23, 3) := by decide +kernel
theorem dX9_write_33 : decode cX9_write 33 = .ok (.aload_n 0, 1) := by decide +kernel
theorem dX9_write_34 : decode cX9_write 34 = .ok (.getfield 99, 3) := by decide +kernel
theorem dX9_write_37 : decode cX9_write 37 = .ok (.iload_n 1, 1) := by decide +kernel
theorem dX9_write_38 : decode cX9_write 38 = .ok (.iastore, 1) := by decide +kernel
theorem dX9_write_39 : decode cX9_write 39 = .ok (.aload_n 0, 1) := by decide +kernel
theorem dX9_write_40 : decode cX9_write 40 = .ok (.dup, 1) := by decide +kernel
theorem dX9_write_41 : decode cX9_write 41 = .ok (.getfield 99, 3) := by decide +kernel
theorem dX9_write_44 : decode cX9_write 44 = .ok (.iconst 1, 1) := by decide +kernel
theorem dX9_write_45 : decode cX9_write 45 = .ok (.iadd, 1) := by decide +kernel
theorem dX9_write_46 : decode cX9_write 46 = .ok (.putfield 99, 3) := by decide +kernel
theorem dX9_write_49 : decode cX9_write 49 = .ok (.aload_n 0, 1) := by decide +kernel
theorem dX9_write_50 : decode cX9_write 50 = .ok (.getfield 99, 3) := by decide +kernel
theorem dX9_write_53 : decode cX9_write 53 = .ok (.ireturn, 1) := by decide +kernel
theorem dX9_wipe_0 : decode cX9_wipe 0 = .ok (.aload_n 0, 1) := by decide +kernel
theorem dX9_wipe_1 : decode cX9_wipe 1 = .ok (.getfield 99, 3) := by decide +kernel
theorem dX9_wipe_4 : decode cX9_wipe 4 = .ok (.istore_n 1, 1) := by decide +kernel
theorem dX9_wipe_5 : decode cX9_wipe 5 = .ok (.aload_n 0, 1) := by decide +kernel
theorem dX9_wipe_6 : decode cX9_wipe 6 = .ok (.iconst 0, 1) := by decide +kernel
theorem dX9_wipe_7 : decode cX9_wipe 7 = .ok (.putfield 99, 3) := by decide +kernel
theorem dX9_wipe_10 : decode cX9_wipe 10 = .ok (.iload_n 1, 1) := by decide +kernel
theorem dX9_wipe_11 : decode cX9_wipe 11 = .ok (.ireturn, 1) := by decide +kernel
theorem dX9_fault_0 : decode cX9_fault 0 = .ok (.aload_n 0, 1) := by decide +kernel
theorem dX9_fault_1 : decode cX9_fault 1 = .ok (.invokevirtual 138, 3) := by decide +kernel
theorem dX9_fault_4 : decode cX9_fault 4 = .ok (.ireturn, 1) := by decide +kernel
theorem dX9_lay_0 : decode cX9_lay 0 = .ok (.aload_n 0, 1) := by decide +kernel
theorem dX9_lay_1 : decode cX9_lay 1 = .ok (.invokevirtual 138, 3) := by decide +kernel
theorem dX9_lay_4 : decode cX9_lay 4 = .ok (.bipush (-4), 2) := by decide +kernel
theorem dX9_lay_6 : decode cX9_lay 6 = .ok (.if_icmp .ne 10, 3) := by decide +kernel
theorem dX9_lay_9 : decode cX9_lay 9 = .ok (.aload_n 0, 1) := by decide +kernel
theorem dX9_lay_10 : decode cX9_lay 10 = .ok (.getfield 122, 3) := by decide +kernel
theorem dX9_lay_13 : decode cX9_lay 13 = .ok (.ifCond .ne 6, 3) := by decide +kernel
theorem dX9_lay_16 : decode cX9_lay 16 = .ok (.bipush (-2), 2) := by decide +kernel
theorem dX9_lay_18 : decode cX9_lay 18 = .ok (.ireturn, 1) := by decide +kernel
theorem dX9_lay_19 : decode cX9_lay 19 = .ok (.iconst 0, 1) := by decide +kernel
theorem dX9_lay_20 : decode cX9_lay 20 = .ok (.istore_n 1, 1) := by decide +kernel
theorem dX9_lay_21 : decode cX9_lay 21 = .ok (.iload_n 1, 1) := by decide +kernel
theorem dX9_lay_22 : decode cX9_lay 22 = .ok (.bipush 7, 2) := by decide +kernel
theorem dX9_lay_24 : decode cX9_lay 24 = .ok (.if_icmp .ge 21, 3) := by decide +kernel
theorem dX9_lay_27 : decode cX9_lay 27 = .ok (.aload_n 0, 1) := by decide +kernel
theorem dX9_lay_28 : decode cX9_lay 28 = .ok (.getfield 7, 3) := by decide +kernel
theorem dX9_lay_31 : decode cX9_lay 31 = .ok (.iload_n 1, 1) := by decide +kernel
theorem dX9_lay_32 : decode cX9_lay 32 = .ok (.aload_n 0, 1) := by decide +kernel
theorem dX9_lay_33 : decode cX9_lay 33 = .ok (.getfield 26, 3) := by decide +kernel
theorem dX9_lay_36 : decode cX9_lay 36 = .ok (.iload_n 1, 1) := by decide +kernel
theorem dX9_lay_37 : decode cX9_lay 37 = .ok (.iaload, 1) := by decide +kernel
theorem dX9_lay_38 : decode cX9_lay 38 = .ok (.iastore, 1) := by decide +kernel
theorem dX9_lay_39 : decode cX9_lay 39 = .ok (.iinc 1 1, 3) := by decide +kernel
theorem dX9_lay_42 : decode cX9_lay 42 = .ok (.goto (-21), 3) := by decide +kernel
theorem dX9_lay_45 : decode cX9_lay 45 = .ok (.aload_n 0, 1) := by decide +kernel
theorem dX9_lay_46 : decode cX9_lay 46 = .ok (.aload_n 0, 1) := by decide +kernel
theorem dX9_lay_47 : decode cX9_lay 47 = .ok (.getfield 122, 3) := by decide +kernel
theorem dX9_lay_50 : decode cX9_lay 50 = .ok (.putfield 88, 3) := by decide +kernel
theorem dX9_lay_53 : decode cX9_lay 53 = .ok (.aload_n 0, 1) := by decide +kernel
theorem dX9_lay_54 : decode cX9_lay 54 = .ok (.getfield 16, 3) := by decide +kernel
theorem dX9_lay_57 : decode cX9_lay 57 = .ok (.iconst 0, 1) := by decide +kernel
theorem dX9_lay_58 : decode cX9_lay 58 = .ok (.lconst 0, 1) := by decide +kernel
theorem dX9_lay_59 : decode cX9_lay 59 = .ok (.lastore, 1) := by decide +kernel
theorem dX9_lay_60 : decode cX9_lay 60 = .ok (.iconst 0, 1) := by decide +kernel
theorem dX9_lay_61 : decode cX9_lay 61 = .ok (.istore_n 1, 1) := by decide +kernel
theorem dX9_lay_62 : decode cX9_lay 62 = .ok (.iload_n 1, 1) := by decide +kernel
theorem dX9_lay_63 : decode cX9_lay 63 = .ok (.aload_n 0, 1) := by decide +kernel
theorem dX9_lay_64 : decode cX9_lay 64 = .ok (.getfield 88, 3) := by decide +kernel
theorem dX9_lay_67 : decode cX9_lay 67 = .ok (.if_icmp .ge 37, 3) := by decide +kernel
theorem dX9_lay_70 : decode cX9_lay 70 = .ok (.aload_n 0, 1) := by decide +kernel
theorem dX9_lay_71 : decode cX9_lay 71 = .ok (.getfield 13, 3) := by decide +kernel
theorem dX9_lay_74 : decode cX9_lay 74 = .ok (.iload_n 1, 1) := by decide +kernel
theorem dX9_lay_75 : decode cX9_lay 75 = .ok (.aload_n 0, 1) := by decide +kernel
theorem dX9_lay_76 : decode cX9_lay 76 = .ok (.getfield 29, 3) := by decide +kernel
theorem dX9_lay_79 : decode cX9_lay 79 = .ok (.iload_n 1, 1) := by decide +kernel
theorem dX9_lay_80 : decode cX9_lay 80 = .ok (.iaload, 1) := by decide +kernel
theorem dX9_lay_81 : decode cX9_lay 81 = .ok (.iastore, 1) := by decide +kernel
theorem dX9_lay_82 : decode cX9_lay 82 = .ok (.aload_n 0, 1) := by decide +kernel
theorem dX9_lay_83 : decode cX9_lay 83 = .ok (.getfield 16, 3) := by decide +kernel
theorem dX9_lay_86 : decode cX9_lay 86 = .ok (.bipush 61, 2) := by decide +kernel
theorem dX9_lay_88 : decode cX9_lay 88 = .ok (.iload_n 1, 1) := by decide +kernel
theorem dX9_lay_89 : decode cX9_lay 89 = .ok (.iadd, 1) := by decide +kernel
theorem dX9_lay_90 : decode cX9_lay 90 = .ok (.aload_n 0, 1) := by decide +kernel
theorem dX9_lay_91 : decode cX9_lay 91 = .ok (.getfield 32, 3) := by decide +kernel
theorem dX9_lay_94 : decode cX9_lay 94 = .ok (.iload_n 1, 1) := by decide +kernel
theorem dX9_lay_95 : decode cX9_lay 95 = .ok (.iaload, 1) := by decide +kernel
theorem dX9_lay_96 : decode cX9_lay 96 = .ok (.i2l, 1) := by decide +kernel
theorem dX9_lay_97 : decode cX9_lay 97 = .ok (.lastore, 1) := by decide +kernel
theorem dX9_lay_98 : decode cX9_lay 98 = .ok (.iinc 1 1, 3) := by decide +kernel
theorem dX9_lay_101 : decode cX9_lay 101 = .ok (.goto (-39), 3) := by decide +kernel
theorem dX9_lay_104 : decode cX9_lay 104 = .ok (.aload_n 0, 1) := by decide +kernel
theorem dX9_lay_105 : decode cX9_lay 105 = .ok (.iconst 0, 1) := by decide +kernel
theorem dX9_lay_106 : decode cX9_lay 106 = .ok (.putfield 142, 3) := by decide +kernel
theorem dX9_lay_109 : decode cX9_lay 109 = .ok (.aload_n 0, 1) := by decide +kernel
theorem dX9_lay_110 : decode cX9_lay 110 = .ok (.getfield 7, 3) := by decide +kernel
theorem dX9_lay_113 : decode cX9_lay 113 = .ok (.iconst 0, 1) := by decide +kernel
theorem dX9_lay_114 : decode cX9_lay 114 = .ok (.iaload, 1) := by decide +kernel
theorem dX9_lay_115 : decode cX9_lay 115 = .ok (.ireturn, 1) := by decide +kernel
theorem dX9_keeps_0 : decode cX9_keeps 0 = .ok (.aload_n 0, 1) := by decide +kernel
theorem dX9_keeps_1 : decode cX9_keeps 1 = .ok (.getfield 142, 3) := by decide +kernel
theorem dX9_keeps_4 : decode cX9_keeps 4 = .ok (.bipush 6, 2) := by decide +kernel
theorem dX9_keeps_6 : decode cX9_keeps 6 = .ok (.if_icmp .ne 43, 3) := by decide +kernel
theorem dX9_keeps_9 : decode cX9_keeps 9 = .ok (.iconst 0, 1) := by decide +kernel
theorem dX9_keeps_10 : decode cX9_keeps 10 = .ok (.istore_n 1, 1) := by decide +kernel
theorem dX9_keeps_11 : decode cX9_keeps 11 = .ok (.iload_n 1, 1) := by decide +kernel
theorem dX9_keeps_12 : decode cX9_keeps 12 = .ok (.sipush 325, 3) := by decide +kernel
theorem dX9_keeps_15 : decode cX9_keeps 15 = .ok (.if_icmp .ge 24, 3) := by decide +kernel
theorem dX9_keeps_18 : decode cX9_keeps 18 = .ok (.aload_n 0, 1) := by decide +kernel
theorem dX9_keeps_19 : decode cX9_keeps 19 = .ok (.getfield 20, 3) := by decide +kernel
theorem dX9_keeps_22 : decode cX9_keeps 22 = .ok (.iload_n 1, 1) := by decide +kernel
theorem dX9_keeps_23 : decode cX9_keeps 23 = .ok (.aload_n 0, 1) := by decide +kernel
theorem dX9_keeps_24 : decode cX9_keeps 24 = .ok (.getfield 20, 3) := by decide +kernel
theorem dX9_keeps_27 : decode cX9_keeps 27 = .ok (.iload_n 1, 1) := by decide +kernel
theorem dX9_keeps_28 : decode cX9_keeps 28 = .ok (.bipush 65, 2) := by decide +kernel
theorem dX9_keeps_30 : decode cX9_keeps 30 = .ok (.iadd, 1) := by decide +kernel
theorem dX9_keeps_31 : decode cX9_keeps 31 = .ok (.laload, 1) := by decide +kernel
theorem dX9_keeps_32 : decode cX9_keeps 32 = .ok (.lastore, 1) := by decide +kernel
theorem dX9_keeps_33 : decode cX9_keeps 33 = .ok (.iinc 1 1, 3) := by decide +kernel
theorem dX9_keeps_36 : decode cX9_keeps 36 = .ok (.goto (-25), 3) := by decide +kernel
theorem dX9_keeps_39 : decode cX9_keeps 39 = .ok (.aload_n 0, 1) := by decide +kernel
theorem dX9_keeps_40 : decode cX9_keeps 40 = .ok (.dup, 1) := by decide +kernel
theorem dX9_keeps_41 : decode cX9_keeps 41 = .ok (.getfield 142, 3) := by decide +kernel
theorem dX9_keeps_44 : decode cX9_keeps 44 = .ok (.iconst 1, 1) := by decide +kernel
theorem dX9_keeps_45 : decode cX9_keeps 45 = .ok (.isub, 1) := by decide +kernel
theorem dX9_keeps_46 : decode cX9_keeps 46 = .ok (.putfield 142, 3) := by decide +kernel
theorem dX9_keeps_49 : decode cX9_keeps 49 = .ok (.iconst 0, 1) := by decide +kernel
theorem dX9_keeps_50 : decode cX9_keeps 50 = .ok (.istore_n 1, 1) := by decide +kernel
theorem dX9_keeps_51 : decode cX9_keeps 51 = .ok (.iload_n 1, 1) := by decide +kernel
theorem dX9_keeps_52 : decode cX9_keeps 52 = .ok (.bipush 65, 2) := by decide +kernel
theorem dX9_keeps_54 : decode cX9_keeps 54 = .ok (.if_icmp .ge 29, 3) := by decide +kernel
theorem dX9_keeps_57 : decode cX9_keeps 57 = .ok (.aload_n 0, 1) := by decide +kernel
theorem dX9_keeps_58 : decode cX9_keeps 58 = .ok (.getfield 20, 3) := by decide +kernel
theorem dX9_keeps_61 : decode cX9_keeps 61 = .ok (.bipush 65, 2) := by decide +kernel
theorem dX9_keeps_63 : decode cX9_keeps 63 = .ok (.aload_n 0, 1) := by decide +kernel
theorem dX9_keeps_64 : decode cX9_keeps 64 = .ok (.getfield 142, 3) := by decide +kernel
theorem dX9_keeps_67 : decode cX9_keeps 67 = .ok (.imul, 1) := by decide +kernel
theorem dX9_keeps_68 : decode cX9_keeps 68 = .ok (.iload_n 1, 1) := by decide +kernel
theorem dX9_keeps_69 : decode cX9_keeps 69 = .ok (.iadd, 1) := by decide +kernel
theorem dX9_keeps_70 : decode cX9_keeps 70 = .ok (.aload_n 0, 1) := by decide +kernel
theorem dX9_keeps_71 : decode cX9_keeps 71 = .ok (.getfield 16, 3) := by decide +kernel
theorem dX9_keeps_74 : decode cX9_keeps 74 = .ok (.iload_n 1, 1) := by decide +kernel
theorem dX9_keeps_75 : decode cX9_keeps 75 = .ok (.laload, 1) := by decide +kernel
theorem dX9_keeps_76 : decode cX9_keeps 76 = .ok (.lastore, 1) := by decide +kernel
theorem dX9_keeps_77 : decode cX9_keeps 77 = .ok (.iinc 1 1, 3) := by decide +kernel
theorem dX9_keeps_80 : decode cX9_keeps 80 = .ok (.goto (-29), 3) := by decide +kernel
theorem dX9_keeps_83 : decode cX9_keeps 83 = .ok (.aload_n 0, 1) := by decide +kernel
theorem dX9_keeps_84 : decode cX9_keeps 84 = .ok (.dup, 1) := by decide +kernel
theorem dX9_keeps_85 : decode cX9_keeps 85 = .ok (.getfield 142, 3) := by decide +kernel
theorem dX9_keeps_88 : decode cX9_keeps 88 = .ok (.iconst 1, 1) := by decide +kernel
theorem dX9_keeps_89 : decode cX9_keeps 89 = .ok (.iadd, 1) := by decide +kernel
theorem dX9_keeps_90 : decode cX9_keeps 90 = .ok (.putfield 142, 3) := by decide +kernel
theorem dX9_keeps_93 : decode cX9_keeps 93 = .ok (.return_, 1) := by decide +kernel
theorem dX9_lines_0 : decode cX9_lines 0 = .ok (.aload_n 0, 1) := by decide +kernel
theorem dX9_lines_1 : decode cX9_lines 1 = .ok (.getfield 16, 3) := by decide +kernel
theorem dX9_lines_4 : decode cX9_lines 4 = .ok (.iconst 0, 1) := by decide +kernel
theorem dX9_lines_5 : decode cX9_lines 5 = .ok (.laload, 1) := by decide +kernel
theorem dX9_lines_6 : decode cX9_lines 6 = .ok (.l2i, 1) := by decide +kernel
theorem dX9_lines_7 : decode cX9_lines 7 = .ok (.ireturn, 1) := by decide +kernel
theorem dX9_power_0 : decode cX9_power 0 = .ok (.lconst 1, 1) := by decide +kernel
theorem dX9_power_1 : decode cX9_power 1 = .ok (.lstore_n 1, 1) := by decide +kernel
theorem dX9_power_2 : decode cX9_power 2 = .ok (.iconst 0, 1) := by decide +kernel
theorem dX9_power_3 : decode cX9_power 3 = .ok (.istore_n 3, 1) := by decide +kernel
theorem dX9_power_4 : decode cX9_power 4 = .ok (.iload_n 3, 1) := by decide +kernel
theorem dX9_power_5 : decode cX9_power 5 = .ok (.aload_n 0, 1) := by decide +kernel
theorem dX9_power_6 : decode cX9_power 6 = .ok (.getfield 7, 3) := by decide +kernel
theorem dX9_power_9 : decode cX9_power 9 = .ok (.iconst 0, 1) := by decide +kernel
theorem dX9_power_10 : decode cX9_power 10 = .ok (.iaload, 1) := by decide +kernel
theorem dX9_power_11 : decode cX9_power 11 = .ok (.if_icmp .ge 15, 3) := by decide +kernel
theorem dX9_power_14 : decode cX9_power 14 = .ok (.lload_n 1, 1) := by decide +kernel
theorem dX9_power_15 : decode cX9_power 15 = .ok (.ldc2_w 145, 3) := by decide +kernel
theorem dX9_power_18 : decode cX9_power 18 = .ok (.lmul, 1) := by decide +kernel
theorem dX9_power_19 : decode cX9_power 19 = .ok (.lstore_n 1, 1) := by decide +kernel
theorem dX9_power_20 : decode cX9_power 20 = .ok (.iinc 3 1, 3) := by decide +kernel
theorem dX9_power_23 : decode cX9_power 23 = .ok (.goto (-19), 3) := by decide +kernel
theorem dX9_power_26 : decode cX9_power 26 = .ok (.lload_n 1, 1) := by decide +kernel
theorem dX9_power_27 : decode cX9_power 27 = .ok (.lreturn, 1) := by decide +kernel
theorem dX9_see_0 : decode cX9_see 0 = .ok (.lload_n 1, 1) := by decide +kernel
theorem dX9_see_1 : decode cX9_see 1 = .ok (.lconst 0, 1) := by decide +kernel
theorem dX9_see_2 : decode cX9_see 2 = .ok (.aload_n 0, 1) := by decide +kernel
theorem dX9_see_3 : decode cX9_see 3 = .ok (.invokevirtual 147, 3) := by decide +kernel
theorem dX9_see_6 : decode cX9_see 6 = .ok (.lconst 1, 1) := by decide +kernel
theorem dX9_see_7 : decode cX9_see 7 = .ok (.lsub, 1) := by decide +kernel
theorem dX9_see_8 : decode cX9_see 8 = .ok (.invokestatic 106, 3) := by decide +kernel
theorem dX9_see_11 : decode cX9_see 11 = .ok (.ifCond .ne 5, 3) := by decide +kernel
theorem dX9_see_14 : decode cX9_see 14 = .ok (.iconst (-1), 1) := by decide +kernel
theorem dX9_see_15 : decode cX9_see 15 = .ok (.ireturn, 1) := by decide +kernel
theorem dX9_see_16 : decode cX9_see 16 = .ok (.aload_n 0, 1) := by decide +kernel
theorem dX9_see_17 : decode cX9_see 17 = .ok (.invokevirtual 151, 3) := by decide +kernel
theorem dX9_see_20 : decode cX9_see 20 = .ok (.aload_n 0, 1) := by decide +kernel
theorem dX9_see_21 : decode cX9_see 21 = .ok (.invokevirtual 154, 3) := by decide +kernel
theorem dX9_see_24 : decode cX9_see 24 = .ok (.bipush 60, 2) := by decide +kernel
theorem dX9_see_26 : decode cX9_see 26 = .ok (.if_icmp .eq 12, 3) := by decide +kernel
theorem dX9_see_29 : decode cX9_see 29 = .ok (.aload_n 0, 1) := by decide +kernel
theorem dX9_see_30 : decode cX9_see 30 = .ok (.getfield 157, 3) := by decide +kernel
theorem dX9_see_33 : decode cX9_see 33 = .ok (.bipush 24, 2) := by decide +kernel
theorem dX9_see_35 : decode cX9_see 35 = .ok (.if_icmp .lt 6, 3) := by decide +kernel
theorem dX9_see_38 : decode cX9_see 38 = .ok (.bipush (-3), 2) := by decide +kernel
theorem dX9_see_40 : decode cX9_see 40 = .ok (.ireturn, 1) := by decide +kernel
theorem dX9_see_41 : decode cX9_see 41 = .ok (.aload_n 0, 1) := by decide +kernel
theorem dX9_see_42 : decode cX9_see 42 = .ok (.getfield 157, 3) := by decide +kernel
theorem dX9_see_45 : decode cX9_see 45 = .ok (.istore_n 3, 1) := by decide +kernel
theorem dX9_see_46 : decode cX9_see 46 = .ok (.aload_n 0, 1) := by decide +kernel
theorem dX9_see_47 : decode cX9_see 47 = .ok (.invokevirtual 160, 3) := by decide +kernel
theorem dX9_see_50 : decode cX9_see 50 = .ok (.aload_n 0, 1) := by decide +kernel
theorem dX9_see_51 : decode cX9_see 51 = .ok (.getfield 16, 3) := by decide +kernel
theorem dX9_see_54 : decode cX9_see 54 = .ok (.iconst 1, 1) := by decide +kernel
theorem dX9_see_55 : decode cX9_see 55 = .ok (.aload_n 0, 1) := by decide +kernel
theorem dX9_see_56 : decode cX9_see 56 = .ok (.invokevirtual 154, 3) := by decide +kernel
theorem dX9_see_59 : decode cX9_see 59 = .ok (.iadd, 1) := by decide +kernel
theorem dX9_see_60 : decode cX9_see 60 = .ok (.lload_n 1, 1) := by decide +kernel
theorem dX9_see_61 : decode cX9_see 61 = .ok (.lastore, 1) := by decide +kernel
theorem dX9_see_62 : decode cX9_see 62 = .ok (.aload_n 0, 1) := by decide +kernel
theorem dX9_see_63 : decode cX9_see 63 = .ok (.getfield 16, 3) := by decide +kernel
theorem dX9_see_66 : decode cX9_see 66 = .ok (.iconst 0, 1) := by decide +kernel
theorem dX9_see_67 : decode cX9_see 67 = .ok (.dup2, 1) := by decide +kernel
theorem dX9_see_68 : decode cX9_see 68 = .ok (.laload, 1) := by decide +kernel
theorem dX9_see_69 : decode cX9_see 69 = .ok (.lconst 1, 1) := by decide +kernel
theorem dX9_see_70 : decode cX9_see 70 = .ok (.ladd, 1) := by decide +kernel
theorem dX9_see_71 : decode cX9_see 71 = .ok (.lastore, 1) := by decide +kernel
theorem dX9_see_72 : decode cX9_see 72 = .ok (.aload_n 0, 1) := by decide +kernel
theorem dX9_see_73 : decode cX9_see 73 = .ok (.invokevirtual 151, 3) := by decide +kernel
theorem dX9_see_76 : decode cX9_see 76 = .ok (.aload_n 0, 1) := by decide +kernel
theorem dX9_see_77 : decode cX9_see 77 = .ok (.getfield 157, 3) := by decide +kernel
theorem dX9_see_80 : decode cX9_see 80 = .ok (.iload_n 3, 1) := by decide +kernel
theorem dX9_see_81 : decode cX9_see 81 = .ok (.isub, 1) := by decide +kernel
theorem dX9_see_82 : decode cX9_see 82 = .ok (.ireturn, 1) := by decide +kernel
theorem dX9_isRuleThere_0 : decode cX9_isRuleThere 0 = .ok (.iload_n 1, 1) := by decide +kernel
theorem dX9_isRuleThere_1 : decode cX9_isRuleThere 1 = .ok (.i2l, 1) := by decide +kernel
theorem dX9_isRuleThere_2 : decode cX9_isRuleThere 2 = .ok (.lconst 0, 1) := by decide +kernel
theorem dX9_isRuleThere_3 : decode cX9_isRuleThere 3 = .ok (.aload_n 0, 1) := by decide +kernel
theorem dX9_isRuleThere_4 : decode cX9_isRuleThere 4 = .ok (.getfield 88, 3) := by decide +kernel
theorem dX9_isRuleThere_7 : decode cX9_isRuleThere 7 = .ok (.iconst 1, 1) := by decide +kernel
theorem dX9_isRuleThere_8 : decode cX9_isRuleThere 8 = .ok (.isub, 1) := by decide +kernel
theorem dX9_isRuleThere_9 : decode cX9_isRuleThere 9 = .ok (.i2l, 1) := by decide +kernel
theorem dX9_isRuleThere_10 : decode cX9_isRuleThere 10 = .ok (.invokestatic 106, 3) := by decide +kernel
theorem dX9_isRuleThere_13 : decode cX9_isRuleThere 13 = .ok (.ireturn, 1) := by decide +kernel
theorem dX9_rule_0 : decode cX9_rule 0 = .ok (.aload_n 0, 1) := by decide +kernel
theorem dX9_rule_1 : decode cX9_rule 1 = .ok (.iload_n 1, 1) := by decide +kernel
theorem dX9_rule_2 : decode cX9_rule 2 = .ok (.invokevirtual 163, 3) := by decide +kernel
theorem dX9_rule_5 : decode cX9_rule 5 = .ok (.ifCond .eq 15, 3) := by decide +kernel
theorem dX9_rule_8 : decode cX9_rule 8 = .ok (.iload_n 2, 1) := by decide +kernel
theorem dX9_rule_9 : decode cX9_rule 9 = .ok (.i2l, 1) := by decide +kernel
theorem dX9_rule_10 : decode cX9_rule 10 = .ok (.lconst 1, 1) := by decide +kernel
theorem dX9_rule_11 : decode cX9_rule 11 = .ok (.ldc2_w 166, 3) := by decide +kernel
theorem dX9_rule_14 : decode cX9_rule 14 = .ok (.invokestatic 106, 3) := by decide +kernel
theorem dX9_rule_17 : decode cX9_rule 17 = .ok (.ifCond .ne 5, 3) := by decide +kernel
theorem dX9_rule_20 : decode cX9_rule 20 = .ok (.iconst (-1), 1) := by decide +kernel
theorem dX9_rule_21 : decode cX9_rule 21 = .ok (.ireturn, 1) := by decide +kernel
theorem dX9_rule_22 : decode cX9_rule 22 = .ok (.aload_n 0, 1) := by decide +kernel
theorem dX9_rule_23 : decode cX9_rule 23 = .ok (.getfield 16, 3) := by decide +kernel
theorem dX9_rule_26 : decode cX9_rule 26 = .ok (.bipush 61, 2) := by decide +kernel
theorem dX9_rule_28 : decode cX9_rule 28 = .ok (.iload_n 1, 1) := by decide +kernel
theorem dX9_rule_29 : decode cX9_rule 29 = .ok (.iadd, 1) := by decide +kernel
theorem dX9_rule_30 : decode cX9_rule 30 = .ok (.laload, 1) := by decide +kernel
theorem dX9_rule_31 : decode cX9_rule 31 = .ok (.l2i, 1) := by decide +kernel
theorem dX9_rule_32 : decode cX9_rule 32 = .ok (.istore_n 3, 1) := by decide +kernel
theorem dX9_rule_33 : decode cX9_rule 33 = .ok (.iload_n 3, 1) := by decide +kernel
theorem dX9_rule_34 : decode cX9_rule 34 = .ok (.iload_n 2, 1) := by decide +kernel
theorem dX9_rule_35 : decode cX9_rule 35 = .ok (.if_icmp .ne 6, 3) := by decide +kernel
theorem dX9_rule_38 : decode cX9_rule 38 = .ok (.bipush (-2), 2) := by decide +kernel
theorem dX9_rule_40 : decode cX9_rule 40 = .ok (.ireturn, 1) := by decide +kernel
theorem dX9_rule_41 : decode cX9_rule 41 = .ok (.aload_n 0, 1) := by decide +kernel
theorem dX9_rule_42 : decode cX9_rule 42 = .ok (.invokevirtual 160, 3) := by decide +kernel
theorem dX9_rule_45 : decode cX9_rule 45 = .ok (.aload_n 0, 1) := by decide +kernel
theorem dX9_rule_46 : decode cX9_rule 46 = .ok (.getfield 16, 3) := by decide +kernel
theorem dX9_rule_49 : decode cX9_rule 49 = .ok (.bipush 61, 2) := by decide +kernel
theorem dX9_rule_51 : decode cX9_rule 51 = .ok (.iload_n 1, 1) := by decide +kernel
theorem dX9_rule_52 : decode cX9_rule 52 = .ok (.iadd, 1) := by decide +kernel
theorem dX9_rule_53 : decode cX9_rule 53 = .ok (.iload_n 2, 1) := by decide +kernel
theorem dX9_rule_54 : decode cX9_rule 54 = .ok (.i2l, 1) := by decide +kernel
theorem dX9_rule_55 : decode cX9_rule 55 = .ok (.lastore, 1) := by decide +kernel
theorem dX9_rule_56 : decode cX9_rule 56 = .ok (.iload_n 3, 1) := by decide +kernel
theorem dX9_rule_57 : decode cX9_rule 57 = .ok (.ireturn, 1) := by decide +kernel
theorem dX9_clear_0 : decode cX9_clear 0 = .ok (.aload_n 0, 1) := by decide +kernel
theorem dX9_clear_1 : decode cX9_clear 1 = .ok (.invokevirtual 154, 3) := by decide +kernel
theorem dX9_clear_4 : decode cX9_clear 4 = .ok (.istore_n 1, 1) := by decide +kernel
theorem dX9_clear_5 : decode cX9_clear 5 = .ok (.iload_n 1, 1) := by decide +kernel
theorem dX9_clear_6 : decode cX9_clear 6 = .ok (.ifCond .ne 6, 3) := by decide +kernel
theorem dX9_clear_9 : decode cX9_clear 9 = .ok (.bipush (-2), 2) := by decide +kernel
theorem dX9_clear_11 : decode cX9_clear 11 = .ok (.ireturn, 1) := by decide +kernel
theorem dX9_clear_12 : decode cX9_clear 12 = .ok (.aload_n 0, 1) := by decide +kernel
theorem dX9_clear_13 : decode cX9_clear 13 = .ok (.invokevirtual 160, 3) := by decide +kernel
theorem dX9_clear_16 : decode cX9_clear 16 = .ok (.aload_n 0, 1) := by decide +kernel
theorem dX9_clear_17 : decode cX9_clear 17 = .ok (.getfield 16, 3) := by decide +kernel
theorem dX9_clear_20 : decode cX9_clear 20 = .ok (.iconst 0, 1) := by decide +kernel
theorem dX9_clear_21 : decode cX9_clear 21 = .ok (.lconst 0, 1) := by decide +kernel
theorem dX9_clear_22 : decode cX9_clear 22 = .ok (.lastore, 1) := by decide +kernel
theorem dX9_clear_23 : decode cX9_clear 23 = .ok (.iload_n 1, 1) := by decide +kernel
theorem dX9_clear_24 : decode cX9_clear 24 = .ok (.ireturn, 1) := by decide +kernel
theorem dX9_undo_0 : decode cX9_undo 0 = .ok (.aload_n 0, 1) := by decide +kernel
theorem dX9_undo_1 : decode cX9_undo 1 = .ok (.getfield 142, 3) := by decide +kernel
theorem dX9_undo_4 : decode cX9_undo 4 = .ok (.ifCond .ne 6, 3) := by decide +kernel
theorem dX9_undo_7 : decode cX9_undo 7 = .ok (.bipush (-2), 2) := by decide +kernel
theorem dX9_undo_9 : decode cX9_undo 9 = .ok (.ireturn, 1) := by decide +kernel
theorem dX9_undo_10 : decode cX9_undo 10 = .ok (.aload_n 0, 1) := by decide +kernel
theorem dX9_undo_11 : decode cX9_undo 11 = .ok (.dup, 1) := by decide +kernel
theorem dX9_undo_12 : decode cX9_undo 12 = .ok (.getfield 142, 3) := by decide +kernel
theorem dX9_undo_15 : decode cX9_undo 15 = .ok (.iconst 1, 1) := by decide +kernel
theorem dX9_undo_16 : decode cX9_undo 16 = .ok (.isub, 1) := by decide +kernel
theorem dX9_undo_17 : decode cX9_undo 17 = .ok (.putfield 142, 3) := by decide +kernel
theorem dX9_undo_20 : decode cX9_undo 20 = .ok (.iconst 0, 1) := by decide +kernel
theorem dX9_undo_21 : decode cX9_undo 21 = .ok (.istore_n 1, 1) := by decide +kernel
theorem dX9_undo_22 : decode cX9_undo 22 = .ok (.iload_n 1, 1) := by decide +kernel
theorem dX9_undo_23 : decode cX9_undo 23 = .ok (.bipush 65, 2) := by decide +kernel
theorem dX9_undo_25 : decode cX9_undo 25 = .ok (.if_icmp .ge 29, 3) := by decide +kernel
theorem dX9_undo_28 : decode cX9_undo 28 = .ok (.aload_n 0, 1) := by decide +kernel
theorem dX9_undo_29 : decode cX9_undo 29 = .ok (.getfield 16, 3) := by decide +kernel
theorem dX9_undo_32 : decode cX9_undo 32 = .ok (.iload_n 1, 1) := by decide +kernel
theorem dX9_undo_33 : decode cX9_undo 33 = .ok (.aload_n 0, 1) := by decide +kernel
theorem dX9_undo_34 : decode cX9_undo 34 = .ok (.getfield 20, 3) := by decide +kernel
theorem dX9_undo_37 : decode cX9_undo 37 = .ok (.bipush 65, 2) := by decide +kernel
theorem dX9_undo_39 : decode cX9_undo 39 = .ok (.aload_n 0, 1) := by decide +kernel
theorem dX9_undo_40 : decode cX9_undo 40 = .ok (.getfield 142, 3) := by decide +kernel
theorem dX9_undo_43 : decode cX9_undo 43 = .ok (.imul, 1) := by decide +kernel
theorem dX9_undo_44 : decode cX9_undo 44 = .ok (.iload_n 1, 1) := by decide +kernel
theorem dX9_undo_45 : decode cX9_undo 45 = .ok (.iadd, 1) := by decide +kernel
theorem dX9_undo_46 : decode cX9_undo 46 = .ok (.laload, 1) := by decide +kernel
theorem dX9_undo_47 : decode cX9_undo 47 = .ok (.lastore, 1) := by decide +kernel
theorem dX9_undo_48 : decode cX9_undo 48 = .ok (.iinc 1 1, 3) := by decide +kernel
theorem dX9_undo_51 : decode cX9_undo 51 = .ok (.goto (-29), 3) := by decide +kernel
theorem dX9_undo_54 : decode cX9_undo 54 = .ok (.aload_n 0, 1) := by decide +kernel
theorem dX9_undo_55 : decode cX9_undo 55 = .ok (.getfield 142, 3) := by decide +kernel
theorem dX9_undo_58 : decode cX9_undo 58 = .ok (.ireturn, 1) := by decide +kernel
theorem dX9_laysCells_0 : decode cX9_laysCells 0 = .ok (.iconst 0, 1) := by decide +kernel
theorem dX9_laysCells_1 : decode cX9_laysCells 1 = .ok (.istore_n 1, 1) := by decide +kernel
theorem dX9_laysCells_2 : decode cX9_laysCells 2 = .ok (.iload_n 1, 1) := by decide +kernel
theorem dX9_laysCells_3 : decode cX9_laysCells 3 = .ok (.aload_n 0, 1) := by decide +kernel
theorem dX9_laysCells_4 : decode cX9_laysCells 4 = .ok (.invokevirtual 154, 3) := by decide +kernel
theorem dX9_laysCells_7 : decode cX9_laysCells 7 = .ok (.if_icmp .ge 82, 3) := by decide +kernel
theorem dX9_laysCells_10 : decode cX9_laysCells 10 = .ok (.aload_n 0, 1) := by decide +kernel
theorem dX9_laysCells_11 : decode cX9_laysCells 11 = .ok (.getfield 16, 3) := by decide +kernel
theorem dX9_laysCells_14 : decode cX9_laysCells 14 = .ok (.iconst 1, 1) := by decide +kernel
theorem dX9_laysCells_15 : decode cX9_laysCells 15 = .ok (.iload_n 1, 1) := by decide +kernel
theorem dX9_laysCells_16 : decode cX9_laysCells 16 = .ok (.iadd, 1) := by decide +kernel
theorem dX9_laysCells_17 : decode cX9_laysCells 17 = .ok (.laload, 1) := by decide +kernel
theorem dX9_laysCells_18 : decode cX9_laysCells 18 = .ok (.lstore_n 2, 1) := by decide +kernel
theorem dX9_laysCells_19 : decode cX9_laysCells 19 = .ok (.aload_n 0, 1) := by decide +kernel
theorem dX9_laysCells_20 : decode cX9_laysCells 20 = .ok (.getfield 7, 3) := by decide +kernel
theorem dX9_laysCells_23 : decode cX9_laysCells 23 = .ok (.iconst 0, 1) := by decide +kernel
theorem dX9_laysCells_24 : decode cX9_laysCells 24 = .ok (.iaload, 1) := by decide +kernel
theorem dX9_laysCells_25 : decode cX9_laysCells 25 = .ok (.iconst 1, 1) := by decide +kernel
theorem dX9_laysCells_26 : decode cX9_laysCells 26 = .ok (.isub, 1) := by decide +kernel
theorem dX9_laysCells_27 : decode cX9_laysCells 27 = .ok (.istore 4, 2) := by decide +kernel
theorem dX9_laysCells_29 : decode cX9_laysCells 29 = .ok (.iload 4, 2) := by decide +kernel
theorem dX9_laysCells_31 : decode cX9_laysCells 31 = .ok (.ifCond .lt 52, 3) := by decide +kernel
theorem dX9_laysCells_34 : decode cX9_laysCells 34 = .ok (.aload_n 0, 1) := by decide +kernel
theorem dX9_laysCells_35 : decode cX9_laysCells 35 = .ok (.getfield 35, 3) := by decide +kernel
theorem dX9_laysCells_38 : decode cX9_laysCells 38 = .ok (.bipush 16, 2) := by decide +kernel
theorem dX9_laysCells_40 : decode cX9_laysCells 40 = .ok (.iload_n 1, 1) := by decide +kernel
theorem dX9_laysCells_41 : decode cX9_laysCells 41 = .ok (.imul, 1) := by decide +kernel
theorem dX9_laysCells_42 : decode cX9_laysCells 42 = .ok (.iload 4, 2) := by decide +kernel
theorem dX9_laysCells_44 : decode cX9_laysCells 44 = .ok (.iadd, 1) := by decide +kernel
theorem dX9_laysCells_45 : decode cX9_laysCells 45 = .ok (.lload_n 2, 1) := by decide +kernel
theorem dX9_laysCells_46 : decode cX9_laysCells 46 = .ok (.ldc2_w 145, 3) := by decide +kernel
theorem dX9_laysCells_49 : decode cX9_laysCells 49 = .ok (.lrem, 1) := by decide +kernel
theorem dX9_laysCells_50 : decode cX9_laysCells 50 = .ok (.l2i, 1) := by decide +kernel
theorem dX9_laysCells_51 : decode cX9_laysCells 51 = .ok (.iastore, 1) := by decide +kernel
theorem dX9_laysCells_52 : decode cX9_laysCells 52 = .ok (.aload_n 0, 1) := by decide +kernel
theorem dX9_laysCells_53 : decode cX9_laysCells 53 = .ok (.getfield 38, 3) := by decide +kernel
theorem dX9_laysCells_56 : decode cX9_laysCells 56 = .ok (.bipush 16, 2) := by decide +kernel
theorem dX9_laysCells_58 : decode cX9_laysCells 58 = .ok (.iload_n 1, 1) := by decide +kernel
theorem dX9_laysCells_59 : decode cX9_laysCells 59 = .ok (.imul, 1) := by decide +kernel
theorem dX9_laysCells_60 : decode cX9_laysCells 60 = .ok (.iload 4, 2) := by decide +kernel
theorem dX9_laysCells_62 : decode cX9_laysCells 62 = .ok (.iadd, 1) := by decide +kernel
theorem dX9_laysCells_63 : decode cX9_laysCells 63 = .ok (.bipush 16, 2) := by decide +kernel
theorem dX9_laysCells_65 : decode cX9_laysCells 65 = .ok (.iload_n 1, 1) := by decide +kernel
theorem dX9_laysCells_66 : decode cX9_laysCells 66 = .ok (.imul, 1) := by decide +kernel
theorem dX9_laysCells_67 : decode cX9_laysCells 67 = .ok (.iload 4, 2) := by decide +kernel
theorem dX9_laysCells_69 : decode cX9_laysCells 69 = .ok (.iadd, 1) := by decide +kernel
theorem dX9_laysCells_70 : decode cX9_laysCells 70 = .ok (.iastore, 1) := by decide +kernel
theorem dX9_laysCells_71 : decode cX9_laysCells 71 = .ok (.lload_n 2, 1) := by decide +kernel
theorem dX9_laysCells_72 : decode cX9_laysCells 72 = .ok (.ldc2_w 145, 3) := by decide +kernel
theorem dX9_laysCells_75 : decode cX9_laysCells 75 = .ok (.ldiv, 1) := by decide +kernel
theorem dX9_laysCells_76 : decode cX9_laysCells 76 = .ok (.lstore_n 2, 1) := by decide +kernel
theorem dX9_laysCells_77 : decode cX9_laysCells 77 = .ok (.iinc 4 (-1), 3) := by decide +kernel
theorem dX9_laysCells_80 : decode cX9_laysCells 80 = .ok (.goto (-51), 3) := by decide +kernel
theorem dX9_laysCells_83 : decode cX9_laysCells 83 = .ok (.iinc 1 1, 3) := by decide +kernel
theorem dX9_laysCells_86 : decode cX9_laysCells 86 = .ok (.goto (-84), 3) := by decide +kernel
theorem dX9_laysCells_89 : decode cX9_laysCells 89 = .ok (.return_, 1) := by decide +kernel
theorem dX9_rootOf_0 : decode cX9_rootOf 0 = .ok (.iload_n 1, 1) := by decide +kernel
theorem dX9_rootOf_1 : decode cX9_rootOf 1 = .ok (.istore_n 2, 1) := by decide +kernel
theorem dX9_rootOf_2 : decode cX9_rootOf 2 = .ok (.aload_n 0, 1) := by decide +kernel
theorem dX9_rootOf_3 : decode cX9_rootOf 3 = .ok (.getfield 38, 3) := by decide +kernel
theorem dX9_rootOf_6 : decode cX9_rootOf 6 = .ok (.iload_n 2, 1) := by decide +kernel
theorem dX9_rootOf_7 : decode cX9_rootOf 7 = .ok (.iaload, 1) := by decide +kernel
theorem dX9_rootOf_8 : decode cX9_rootOf 8 = .ok (.iload_n 2, 1) := by decide +kernel
theorem dX9_rootOf_9 : decode cX9_rootOf 9 = .ok (.if_icmp .eq 13, 3) := by decide +kernel
theorem dX9_rootOf_12 : decode cX9_rootOf 12 = .ok (.aload_n 0, 1) := by decide +kernel
theorem dX9_rootOf_13 : decode cX9_rootOf 13 = .ok (.getfield 38, 3) := by decide +kernel
theorem dX9_rootOf_16 : decode cX9_rootOf 16 = .ok (.iload_n 2, 1) := by decide +kernel
theorem dX9_rootOf_17 : decode cX9_rootOf 17 = .ok (.iaload, 1) := by decide +kernel
theorem dX9_rootOf_18 : decode cX9_rootOf 18 = .ok (.istore_n 2, 1) := by decide +kernel
theorem dX9_rootOf_19 : decode cX9_rootOf 19 = .ok (.goto (-17), 3) := by decide +kernel
theorem dX9_rootOf_22 : decode cX9_rootOf 22 = .ok (.iload_n 2, 1) := by decide +kernel
theorem dX9_rootOf_23 : decode cX9_rootOf 23 = .ok (.ireturn, 1) := by decide +kernel
theorem dX9_joins_0 : decode cX9_joins 0 = .ok (.aload_n 0, 1) := by decide +kernel
theorem dX9_joins_1 : decode cX9_joins 1 = .ok (.iload_n 1, 1) := by decide +kernel
theorem dX9_joins_2 : decode cX9_joins 2 = .ok (.invokevirtual 168, 3) := by decide +kernel
theorem dX9_joins_5 : decode cX9_joins 5 = .ok (.istore_n 3, 1) := by decide +kernel
theorem dX9_joins_6 : decode cX9_joins 6 = .ok (.aload_n 0, 1) := by decide +kernel
theorem dX9_joins_7 : decode cX9_joins 7 = .ok (.iload_n 2, 1) := by decide +kernel
theorem dX9_joins_8 : decode cX9_joins 8 = .ok (.invokevirtual 168, 3) := by decide +kernel
theorem dX9_joins_11 : decode cX9_joins 11 = .ok (.istore 4, 2) := by decide +kernel
theorem dX9_joins_13 : decode cX9_joins 13 = .ok (.aload_n 0, 1) := by decide +kernel
theorem dX9_joins_14 : decode cX9_joins 14 = .ok (.getfield 38, 3) := by decide +kernel
theorem dX9_joins_17 : decode cX9_joins 17 = .ok (.iload_n 3, 1) := by decide +kernel
theorem dX9_joins_18 : decode cX9_joins 18 = .ok (.iload 4, 2) := by decide +kernel
theorem dX9_joins_20 : decode cX9_joins 20 = .ok (.if_icmp .ge 8, 3) := by decide +kernel
theorem dX9_joins_23 : decode cX9_joins 23 = .ok (.iload 4, 2) := by decide +kernel
theorem dX9_joins_25 : decode cX9_joins 25 = .ok (.goto 4, 3) := by decide +kernel
theorem dX9_joins_28 : decode cX9_joins 28 = .ok (.iload_n 3, 1) := by decide +kernel
theorem dX9_joins_29 : decode cX9_joins 29 = .ok (.iload_n 3, 1) := by decide +kernel
theorem dX9_joins_30 : decode cX9_joins 30 = .ok (.iload 4, 2) := by decide +kernel
theorem dX9_joins_32 : decode cX9_joins 32 = .ok (.if_icmp .ge 7, 3) := by decide +kernel
theorem dX9_joins_35 : decode cX9_joins 35 = .ok (.iload_n 3, 1) := by decide +kernel
theorem dX9_joins_36 : decode cX9_joins 36 = .ok (.goto 5, 3) := by decide +kernel
theorem dX9_joins_39 : decode cX9_joins 39 = .ok (.iload 4, 2) := by decide +kernel
theorem dX9_joins_41 : decode cX9_joins 41 = .ok (.iastore, 1) := by decide +kernel
theorem dX9_joins_42 : decode cX9_joins 42 = .ok (.return_, 1) := by decide +kernel
theorem dX9_joinsAround_0 : decode cX9_joinsAround 0 = .ok (.bipush 16, 2) := by decide +kernel
theorem dX9_joinsAround_2 : decode cX9_joinsAround 2 = .ok (.iload_n 1, 1) := by decide +kernel
theorem dX9_joinsAround_3 : decode cX9_joinsAround 3 = .ok (.imul, 1) := by decide +kernel
theorem dX9_joinsAround_4 : decode cX9_joinsAround 4 = .ok (.iload_n 2, 1) := by decide +kernel
theorem dX9_joinsAround_5 : decode cX9_joinsAround 5 = .ok (.iadd, 1) := by decide +kernel
theorem dX9_joinsAround_6 : decode cX9_joinsAround 6 = .ok (.istore_n 3, 1) := by decide +kernel
theorem dX9_joinsAround_7 : decode cX9_joinsAround 7 = .ok (.aload_n 0, 1) := by decide +kernel
theorem dX9_joinsAround_8 : decode cX9_joinsAround 8 = .ok (.getfield 35, 3) := by decide +kernel
theorem dX9_joinsAround_11 : decode cX9_joinsAround 11 = .ok (.iload_n 3, 1) := by decide +kernel
theorem dX9_joinsAround_12 : decode cX9_joinsAround 12 = .ok (.iaload, 1) := by decide +kernel
theorem dX9_joinsAround_13 : decode cX9_joinsAround 13 = .ok (.ifCond .ne 4, 3) := by decide +kernel
theorem dX9_joinsAround_16 : decode cX9_joinsAround 16 = .ok (.return_, 1) := by decide +kernel
theorem dX9_joinsAround_17 : decode cX9_joinsAround 17 = .ok (.iload_n 2, 1) := by decide +kernel
theorem dX9_joinsAround_18 : decode cX9_joinsAround 18 = .ok (.ifCond .le 22, 3) := by decide +kernel
theorem dX9_joinsAround_21 : decode cX9_joinsAround 21 = .ok (.aload_n 0, 1) := by decide +kernel
theorem dX9_joinsAround_22 : decode cX9_joinsAround 22 = .ok (.getfield 35, 3) := by decide +kernel
theorem dX9_joinsAround_25 : decode cX9_joinsAround 25 = .ok (.iload_n 3, 1) := by decide +kernel
theorem dX9_joinsAround_26 : decode cX9_joinsAround 26 = .ok (.iconst 1, 1) := by decide +kernel
theorem dX9_joinsAround_27 : decode cX9_joinsAround 27 = .ok (.isub, 1) := by decide +kernel
theorem dX9_joinsAround_28 : decode cX9_joinsAround 28 = .ok (.iaload, 1) := by decide +kernel
theorem dX9_joinsAround_29 : decode cX9_joinsAround 29 = .ok (.ifCond .le 11, 3) := by decide +kernel
theorem dX9_joinsAround_32 : decode cX9_joinsAround 32 = .ok (.aload_n 0, 1) := by decide +kernel
theorem dX9_joinsAround_33 : decode cX9_joinsAround 33 = .ok (.iload_n 3, 1) := by decide +kernel
theorem dX9_joinsAround_34 : decode cX9_joinsAround 34 = .ok (.iload_n 3, 1) := by decide +kernel
theorem dX9_joinsAround_35 : decode cX9_joinsAround 35 = .ok (.iconst 1, 1) := by decide +kernel
theorem dX9_joinsAround_36 : decode cX9_joinsAround 36 = .ok (.isub, 1) := by decide +kernel
theorem dX9_joinsAround_37 : decode cX9_joinsAround 37 = .ok (.invokevirtual 172, 3) := by decide +kernel
theorem dX9_joinsAround_40 : decode cX9_joinsAround 40 = .ok (.iload_n 2, 1) := by decide +kernel
theorem dX9_joinsAround_41 : decode cX9_joinsAround 41 = .ok (.ifCond .le 7, 3) := by decide +kernel
theorem dX9_joinsAround_44 : decode cX9_joinsAround 44 = .ok (.iconst (-1), 1) := by decide +kernel
theorem dX9_joinsAround_45 : decode cX9_joinsAround 45 = .ok (.goto 4, 3) := by decide +kernel
theorem dX9_joinsAround_48 : decode cX9_joinsAround 48 = .ok (.iconst 0, 1) := by decide +kernel
theorem dX9_joinsAround_49 : decode cX9_joinsAround 49 = .ok (.istore 4, 2) := by decide +kernel
theorem dX9_joinsAround_51 : decode cX9_joinsAround 51 = .ok (.iload 4, 2) := by decide +kernel
theorem dX9_joinsAround_53 : decode cX9_joinsAround 53 = .ok (.iconst 2, 1) := by decide +kernel
theorem dX9_joinsAround_54 : decode cX9_joinsAround 54 = .ok (.if_icmp .ge 53, 3) := by decide +kernel
theorem dX9_joinsAround_57 : decode cX9_joinsAround 57 = .ok (.iload_n 1, 1) := by decide +kernel
theorem dX9_joinsAround_58 : decode cX9_joinsAround 58 = .ok (.ifCond .le 49, 3) := by decide +kernel
theorem dX9_joinsAround_61 : decode cX9_joinsAround 61 = .ok (.iload_n 2, 1) := by decide +kernel
theorem dX9_joinsAround_62 : decode cX9_joinsAround 62 = .ok (.iload 4, 2) := by decide +kernel
theorem dX9_joinsAround_64 : decode cX9_joinsAround 64 = .ok (.iadd, 1) := by decide +kernel
theorem dX9_joinsAround_65 : decode cX9_joinsAround 65 = .ok (.aload_n 0, 1) := by decide +kernel
theorem dX9_joinsAround_66 : decode cX9_joinsAround 66 = .ok (.getfield 7, 3) := by decide +kernel
theorem dX9_joinsAround_69 : decode cX9_joinsAround 69 = .ok (.iconst 0, 1) := by decide +kernel
theorem dX9_joinsAround_70 : decode cX9_joinsAround 70 = .ok (.iaload, 1) := by decide +kernel
theorem dX9_joinsAround_71 : decode cX9_joinsAround 71 = .ok (.if_icmp .ge 30, 3) := by decide +kernel
theorem dX9_joinsAround_74 : decode cX9_joinsAround 74 = .ok (.aload_n 0, 1) := by decide +kernel
theorem dX9_joinsAround_75 : decode cX9_joinsAround 75 = .ok (.getfield 35, 3) := by decide +kernel
theorem dX9_joinsAround_78 : decode cX9_joinsAround 78 = .ok (.iload_n 3, 1) := by decide +kernel
theorem dX9_joinsAround_79 : decode cX9_joinsAround 79 = .ok (.bipush 16, 2) := by decide +kernel
theorem dX9_joinsAround_81 : decode cX9_joinsAround 81 = .ok (.isub, 1) := by decide +kernel
theorem dX9_joinsAround_82 : decode cX9_joinsAround 82 = .ok (.iload 4, 2) := by decide +kernel
theorem dX9_joinsAround_84 : decode cX9_joinsAround 84 = .ok (.iadd, 1) := by decide +kernel
theorem dX9_joinsAround_85 : decode cX9_joinsAround 85 = .ok (.iaload, 1) := by decide +kernel
theorem dX9_joinsAround_86 : decode cX9_joinsAround 86 = .ok (.ifCond .le 15, 3) := by decide +kernel
theorem dX9_joinsAround_89 : decode cX9_joinsAround 89 = .ok (.aload_n 0, 1) := by decide +kernel
theorem dX9_joinsAround_90 : decode cX9_joinsAround 90 = .ok (.iload_n 3, 1) := by decide +kernel
theorem dX9_joinsAround_91 : decode cX9_joinsAround 91 = .ok (.iload_n 3, 1) := by decide +kernel
theorem dX9_joinsAround_92 : decode cX9_joinsAround 92 = .ok (.bipush 16, 2) := by decide +kernel
theorem dX9_joinsAround_94 : decode cX9_joinsAround 94 = .ok (.isub, 1) := by decide +kernel
theorem dX9_joinsAround_95 : decode cX9_joinsAround 95 = .ok (.iload 4, 2) := by decide +kernel
theorem dX9_joinsAround_97 : decode cX9_joinsAround 97 = .ok (.iadd, 1) := by decide +kernel
theorem dX9_joinsAround_98 : decode cX9_joinsAround 98 = .ok (.invokevirtual 172, 3) := by decide +kernel
theorem dX9_joinsAround_101 : decode cX9_joinsAround 101 = .ok (.iinc 4 1, 3) := by decide +kernel
theorem dX9_joinsAround_104 : decode cX9_joinsAround 104 = .ok (.goto (-53), 3) := by decide +kernel
theorem dX9_joinsAround_107 : decode cX9_joinsAround 107 = .ok (.return_, 1) := by decide +kernel
theorem dX9_blobOf_0 : decode cX9_blobOf 0 = .ok (.bipush (-4), 2) := by decide +kernel
theorem dX9_blobOf_2 : decode cX9_blobOf 2 = .ok (.istore_n 2, 1) := by decide +kernel
theorem dX9_blobOf_3 : decode cX9_blobOf 3 = .ok (.iconst 0, 1) := by decide +kernel
theorem dX9_blobOf_4 : decode cX9_blobOf 4 = .ok (.istore_n 3, 1) := by decide +kernel
theorem dX9_blobOf_5 : decode cX9_blobOf 5 = .ok (.iload_n 3, 1) := by decide +kernel
theorem dX9_blobOf_6 : decode cX9_blobOf 6 = .ok (.aload_n 0, 1) := by decide +kernel
theorem dX9_blobOf_7 : decode cX9_blobOf 7 = .ok (.getfield 176, 3) := by decide +kernel
theorem dX9_blobOf_10 : decode cX9_blobOf 10 = .ok (.if_icmp .ge 25, 3) := by decide +kernel
theorem dX9_blobOf_13 : decode cX9_blobOf 13 = .ok (.aload_n 0, 1) := by decide +kernel
theorem dX9_blobOf_14 : decode cX9_blobOf 14 = .ok (.getfield 41, 3) := by decide +kernel
theorem dX9_blobOf_17 : decode cX9_blobOf 17 = .ok (.iload_n 3, 1) := by decide +kernel
theorem dX9_blobOf_18 : decode cX9_blobOf 18 = .ok (.iaload, 1) := by decide +kernel
theorem dX9_blobOf_19 : decode cX9_blobOf 19 = .ok (.iload_n 1, 1) := by decide +kernel
theorem dX9_blobOf_20 : decode cX9_blobOf 20 = .ok (.if_icmp .ne 7, 3) := by decide +kernel
theorem dX9_blobOf_23 : decode cX9_blobOf 23 = .ok (.iload_n 3, 1) := by decide +kernel
theorem dX9_blobOf_24 : decode cX9_blobOf 24 = .ok (.goto 4, 3) := by decide +kernel
theorem dX9_blobOf_27 : decode cX9_blobOf 27 = .ok (.iload_n 2, 1) := by decide +kernel
theorem dX9_blobOf_28 : decode cX9_blobOf 28 = .ok (.istore_n 2, 1) := by decide +kernel
theorem dX9_blobOf_29 : decode cX9_blobOf 29 = .ok (.iinc 3 1, 3) := by decide +kernel
theorem dX9_blobOf_32 : decode cX9_blobOf 32 = .ok (.goto (-27), 3) := by decide +kernel
theorem dX9_blobOf_35 : decode cX9_blobOf 35 = .ok (.iload_n 2, 1) := by decide +kernel
theorem dX9_blobOf_36 : decode cX9_blobOf 36 = .ok (.ireturn, 1) := by decide +kernel
theorem dX9_begins_0 : decode cX9_begins 0 = .ok (.aload_n 0, 1) := by decide +kernel
theorem dX9_begins_1 : decode cX9_begins 1 = .ok (.getfield 41, 3) := by decide +kernel
theorem dX9_begins_4 : decode cX9_begins 4 = .ok (.aload_n 0, 1) := by decide +kernel
theorem dX9_begins_5 : decode cX9_begins 5 = .ok (.getfield 176, 3) := by decide +kernel
theorem dX9_begins_8 : decode cX9_begins 8 = .ok (.iload_n 1, 1) := by decide +kernel
theorem dX9_begins_9 : decode cX9_begins 9 = .ok (.iastore, 1) := by decide +kernel
theorem dX9_begins_10 : decode cX9_begins 10 = .ok (.aload_n 0, 1) := by decide +kernel
theorem dX9_begins_11 : decode cX9_begins 11 = .ok (.getfield 44, 3) := by decide +kernel
theorem dX9_begins_14 : decode cX9_begins 14 = .ok (.aload_n 0, 1) := by decide +kernel
theorem dX9_begins_15 : decode cX9_begins 15 = .ok (.getfield 176, 3) := by decide +kernel
theorem dX9_begins_18 : decode cX9_begins 18 = .ok (.iload_n 2, 1) := by decide +kernel
theorem dX9_begins_19 : decode cX9_begins 19 = .ok (.iastore, 1) := by decide +kernel
theorem dX9_begins_20 : decode cX9_begins 20 = .ok (.aload_n 0, 1) := by decide +kernel
theorem dX9_begins_21 : decode cX9_begins 21 = .ok (.getfield 50, 3) := by decide +kernel
theorem dX9_begins_24 : decode cX9_begins 24 = .ok (.aload_n 0, 1) := by decide +kernel
theorem dX9_begins_25 : decode cX9_begins 25 = .ok (.getfield 176, 3) := by decide +kernel
theorem dX9_begins_28 : decode cX9_begins 28 = .ok (.iload_n 3, 1) := by decide +kernel
theorem dX9_begins_29 : decode cX9_begins 29 = .ok (.iastore, 1) := by decide +kernel
theorem dX9_begins_30 : decode cX9_begins 30 = .ok (.aload_n 0, 1) := by decide +kernel
theorem dX9_begins_31 : decode cX9_begins 31 = .ok (.getfield 53, 3) := by decide +kernel
theorem dX9_begins_34 : decode cX9_begins 34 = .ok (.aload_n 0, 1) := by decide +kernel
theorem dX9_begins_35 : decode cX9_begins 35 = .ok (.getfield 176, 3) := by decide +kernel
theorem dX9_begins_38 : decode cX9_begins 38 = .ok (.iload_n 3, 1) := by decide +kernel
theorem dX9_begins_39 : decode cX9_begins 39 = .ok (.iastore, 1) := by decide +kernel
theorem dX9_begins_40 : decode cX9_begins 40 = .ok (.aload_n 0, 1) := by decide +kernel
theorem dX9_begins_41 : decode cX9_begins 41 = .ok (.getfield 56, 3) := by decide +kernel
theorem dX9_begins_44 : decode cX9_begins 44 = .ok (.aload_n 0, 1) := by decide +kernel
theorem dX9_begins_45 : decode cX9_begins 45 = .ok (.getfield 176, 3) := by decide +kernel
theorem dX9_begins_48 : decode cX9_begins 48 = .ok (.iload_n 3, 1) := by decide +kernel
theorem dX9_begins_49 : decode cX9_begins 49 = .ok (.iastore, 1) := by decide +kernel
theorem dX9_begins_50 : decode cX9_begins 50 = .ok (.aload_n 0, 1) := by decide +kernel
theorem dX9_begins_51 : decode cX9_begins 51 = .ok (.getfield 59, 3) := by decide +kernel
theorem dX9_begins_54 : decode cX9_begins 54 = .ok (.aload_n 0, 1) := by decide +kernel
theorem dX9_begins_55 : decode cX9_begins 55 = .ok (.getfield 176, 3) := by decide +kernel
theorem dX9_begins_58 : decode cX9_begins 58 = .ok (.iconst 0, 1) := by decide +kernel
theorem dX9_begins_59 : decode cX9_begins 59 = .ok (.iastore, 1) := by decide +kernel
theorem dX9_begins_60 : decode cX9_begins 60 = .ok (.aload_n 0, 1) := by decide +kernel
theorem dX9_begins_61 : decode cX9_begins 61 = .ok (.getfield 62, 3) := by decide +kernel
theorem dX9_begins_64 : decode cX9_begins 64 = .ok (.aload_n 0, 1) := by decide +kernel
theorem dX9_begins_65 : decode cX9_begins 65 = .ok (.getfield 176, 3) := by decide +kernel
theorem dX9_begins_68 : decode cX9_begins 68 = .ok (.iconst 0, 1) := by decide +kernel
theorem dX9_begins_69 : decode cX9_begins 69 = .ok (.iastore, 1) := by decide +kernel
theorem dX9_begins_70 : decode cX9_begins 70 = .ok (.aload_n 0, 1) := by decide +kernel
theorem dX9_begins_71 : decode cX9_begins 71 = .ok (.getfield 65, 3) := by decide +kernel
theorem dX9_begins_74 : decode cX9_begins 74 = .ok (.aload_n 0, 1) := by decide +kernel
theorem dX9_begins_75 : decode cX9_begins 75 = .ok (.getfield 176, 3) := by decide +kernel
theorem dX9_begins_78 : decode cX9_begins 78 = .ok (.iconst 0, 1) := by decide +kernel
theorem dX9_begins_79 : decode cX9_begins 79 = .ok (.iastore, 1) := by decide +kernel
theorem dX9_begins_80 : decode cX9_begins 80 = .ok (.aload_n 0, 1) := by decide +kernel
theorem dX9_begins_81 : decode cX9_begins 81 = .ok (.dup, 1) := by decide +kernel
theorem dX9_begins_82 : decode cX9_begins 82 = .ok (.getfield 176, 3) := by decide +kernel
theorem dX9_begins_85 : decode cX9_begins 85 = .ok (.iconst 1, 1) := by decide +kernel
theorem dX9_begins_86 : decode cX9_begins 86 = .ok (.iadd, 1) := by decide +kernel
theorem dX9_begins_87 : decode cX9_begins 87 = .ok (.putfield 176, 3) := by decide +kernel
theorem dX9_begins_90 : decode cX9_begins 90 = .ok (.return_, 1) := by decide +kernel
theorem dX9_counts_0 : decode cX9_counts 0 = .ok (.aload_n 0, 1) := by decide +kernel
theorem dX9_counts_1 : decode cX9_counts 1 = .ok (.bipush 16, 2) := by decide +kernel
theorem dX9_counts_3 : decode cX9_counts 3 = .ok (.iload_n 1, 1) := by decide +kernel
theorem dX9_counts_4 : decode cX9_counts 4 = .ok (.imul, 1) := by decide +kernel
theorem dX9_counts_5 : decode cX9_counts 5 = .ok (.iload_n 2, 1) := by decide +kernel
theorem dX9_counts_6 : decode cX9_counts 6 = .ok (.iadd, 1) := by decide +kernel
theorem dX9_counts_7 : decode cX9_counts 7 = .ok (.invokevirtual 168, 3) := by decide +kernel
theorem dX9_counts_10 : decode cX9_counts 10 = .ok (.istore_n 3, 1) := by decide +kernel
theorem dX9_counts_11 : decode cX9_counts 11 = .ok (.aload_n 0, 1) := by decide +kernel
theorem dX9_counts_12 : decode cX9_counts 12 = .ok (.iload_n 3, 1) := by decide +kernel
theorem dX9_counts_13 : decode cX9_counts 13 = .ok (.invokevirtual 179, 3) := by decide +kernel
theorem dX9_counts_16 : decode cX9_counts 16 = .ok (.bipush (-4), 2) := by decide +kernel
theorem dX9_counts_18 : decode cX9_counts 18 = .ok (.if_icmp .ne 10, 3) := by decide +kernel
theorem dX9_counts_21 : decode cX9_counts 21 = .ok (.aload_n 0, 1) := by decide +kernel
theorem dX9_counts_22 : decode cX9_counts 22 = .ok (.iload_n 3, 1) := by decide +kernel
theorem dX9_counts_23 : decode cX9_counts 23 = .ok (.iload_n 1, 1) := by decide +kernel
theorem dX9_counts_24 : decode cX9_counts 24 = .ok (.iload_n 2, 1) := by decide +kernel
theorem dX9_counts_25 : decode cX9_counts 25 = .ok (.invokevirtual 182, 3) := by decide +kernel
theorem dX9_counts_28 : decode cX9_counts 28 = .ok (.aload_n 0, 1) := by decide +kernel
theorem dX9_counts_29 : decode cX9_counts 29 = .ok (.iload_n 3, 1) := by decide +kernel
theorem dX9_counts_30 : decode cX9_counts 30 = .ok (.invokevirtual 179, 3) := by decide +kernel
theorem dX9_counts_33 : decode cX9_counts 33 = .ok (.istore 4, 2) := by decide +kernel
theorem dX9_counts_35 : decode cX9_counts 35 = .ok (.aload_n 0, 1) := by decide +kernel
theorem dX9_counts_36 : decode cX9_counts 36 = .ok (.getfield 35, 3) := by decide +kernel
theorem dX9_counts_39 : decode cX9_counts 39 = .ok (.bipush 16, 2) := by decide +kernel
theorem dX9_counts_41 : decode cX9_counts 41 = .ok (.iload_n 1, 1) := by decide +kernel
theorem dX9_counts_42 : decode cX9_counts 42 = .ok (.imul, 1) := by decide +kernel
theorem dX9_counts_43 : decode cX9_counts 43 = .ok (.iload_n 2, 1) := by decide +kernel
theorem dX9_counts_44 : decode cX9_counts 44 = .ok (.iadd, 1) := by decide +kernel
theorem dX9_counts_45 : decode cX9_counts 45 = .ok (.iaload, 1) := by decide +kernel
theorem dX9_counts_46 : decode cX9_counts 46 = .ok (.istore 5, 2) := by decide +kernel
theorem dX9_counts_48 : decode cX9_counts 48 = .ok (.aload_n 0, 1) := by decide +kernel
theorem dX9_counts_49 : decode cX9_counts 49 = .ok (.getfield 47, 3) := by decide +kernel
theorem dX9_counts_52 : decode cX9_counts 52 = .ok (.iload 4, 2) := by decide +kernel
theorem dX9_counts_54 : decode cX9_counts 54 = .ok (.iload_n 1, 1) := by decide +kernel
theorem dX9_counts_55 : decode cX9_counts 55 = .ok (.iastore, 1) := by decide +kernel
theorem dX9_counts_56 : decode cX9_counts 56 = .ok (.aload_n 0, 1) := by decide +kernel
theorem dX9_counts_57 : decode cX9_counts 57 = .ok (.getfield 53, 3) := by decide +kernel
theorem dX9_counts_60 : decode cX9_counts 60 = .ok (.iload 4, 2) := by decide +kernel
theorem dX9_counts_62 : decode cX9_counts 62 = .ok (.iload_n 2, 1) := by decide +kernel
theorem dX9_counts_63 : decode cX9_counts 63 = .ok (.aload_n 0, 1) := by decide +kernel
theorem dX9_counts_64 : decode cX9_counts 64 = .ok (.getfield 53, 3) := by decide +kernel
theorem dX9_counts_67 : decode cX9_counts 67 = .ok (.iload 4, 2) := by decide +kernel
theorem dX9_counts_69 : decode cX9_counts 69 = .ok (.iaload, 1) := by decide +kernel
theorem dX9_counts_70 : decode cX9_counts 70 = .ok (.if_icmp .ge 7, 3) := by decide +kernel
theorem dX9_counts_73 : decode cX9_counts 73 = .ok (.iload_n 2, 1) := by decide +kernel
theorem dX9_counts_74 : decode cX9_counts 74 = .ok (.goto 10, 3) := by decide +kernel
theorem dX9_counts_77 : decode cX9_counts 77 = .ok (.aload_n 0, 1) := by decide +kernel
theorem dX9_counts_78 : decode cX9_counts 78 = .ok (.getfield 53, 3) := by decide +kernel
theorem dX9_counts_81 : decode cX9_counts 81 = .ok (.iload 4, 2) := by decide +kernel
theorem dX9_counts_83 : decode cX9_counts 83 = .ok (.iaload, 1) := by decide +kernel
theorem dX9_counts_84 : decode cX9_counts 84 = .ok (.iastore, 1) := by decide +kernel
theorem dX9_counts_85 : decode cX9_counts 85 = .ok (.aload_n 0, 1) := by decide +kernel
theorem dX9_counts_86 : decode cX9_counts 86 = .ok (.getfield 56, 3) := by decide +kernel
theorem dX9_counts_89 : decode cX9_counts 89 = .ok (.iload 4, 2) := by decide +kernel
theorem dX9_counts_91 : decode cX9_counts 91 = .ok (.iload_n 2, 1) := by decide +kernel
theorem dX9_counts_92 : decode cX9_counts 92 = .ok (.aload_n 0, 1) := by decide +kernel
theorem dX9_counts_93 : decode cX9_counts 93 = .ok (.getfield 56, 3) := by decide +kernel
theorem dX9_counts_96 : decode cX9_counts 96 = .ok (.iload 4, 2) := by decide +kernel
theorem dX9_counts_98 : decode cX9_counts 98 = .ok (.iaload, 1) := by decide +kernel
theorem dX9_counts_99 : decode cX9_counts 99 = .ok (.if_icmp .le 7, 3) := by decide +kernel
theorem dX9_counts_102 : decode cX9_counts 102 = .ok (.iload_n 2, 1) := by decide +kernel
theorem dX9_counts_103 : decode cX9_counts 103 = .ok (.goto 10, 3) := by decide +kernel
theorem dX9_counts_106 : decode cX9_counts 106 = .ok (.aload_n 0, 1) := by decide +kernel
theorem dX9_counts_107 : decode cX9_counts 107 = .ok (.getfield 56, 3) := by decide +kernel
theorem dX9_counts_110 : decode cX9_counts 110 = .ok (.iload 4, 2) := by decide +kernel
theorem dX9_counts_112 : decode cX9_counts 112 = .ok (.iaload, 1) := by decide +kernel
theorem dX9_counts_113 : decode cX9_counts 113 = .ok (.iastore, 1) := by decide +kernel
theorem dX9_counts_114 : decode cX9_counts 114 = .ok (.aload_n 0, 1) := by decide +kernel
theorem dX9_counts_115 : decode cX9_counts 115 = .ok (.getfield 59, 3) := by decide +kernel
theorem dX9_counts_118 : decode cX9_counts 118 = .ok (.iload 4, 2) := by decide +kernel
theorem dX9_counts_120 : decode cX9_counts 120 = .ok (.dup2, 1) := by decide +kernel
theorem dX9_counts_121 : decode cX9_counts 121 = .ok (.iaload, 1) := by decide +kernel
theorem dX9_counts_122 : decode cX9_counts 122 = .ok (.iconst 1, 1) := by decide +kernel
theorem dX9_counts_123 : decode cX9_counts 123 = .ok (.iadd, 1) := by decide +kernel
theorem dX9_counts_124 : decode cX9_counts 124 = .ok (.iastore, 1) := by decide +kernel
theorem dX9_counts_125 : decode cX9_counts 125 = .ok (.aload_n 0, 1) := by decide +kernel
theorem dX9_counts_126 : decode cX9_counts 126 = .ok (.getfield 62, 3) := by decide +kernel
theorem dX9_counts_129 : decode cX9_counts 129 = .ok (.iload 4, 2) := by decide +kernel
theorem dX9_counts_131 : decode cX9_counts 131 = .ok (.dup2, 1) := by decide +kernel
theorem dX9_counts_132 : decode cX9_counts 132 = .ok (.iaload, 1) := by decide +kernel
theorem dX9_counts_133 : decode cX9_counts 133 = .ok (.iload 5, 2) := by decide +kernel
theorem dX9_counts_135 : decode cX9_counts 135 = .ok (.iadd, 1) := by decide +kernel
theorem dX9_counts_136 : decode cX9_counts 136 = .ok (.iastore, 1) := by decide +kernel
theorem dX9_counts_137 : decode cX9_counts 137 = .ok (.aload_n 0, 1) := by decide +kernel
theorem dX9_counts_138 : decode cX9_counts 138 = .ok (.getfield 65, 3) := by decide +kernel
theorem dX9_counts_141 : decode cX9_counts 141 = .ok (.iload 4, 2) := by decide +kernel
theorem dX9_counts_143 : decode cX9_counts 143 = .ok (.dup2, 1) := by decide +kernel
theorem dX9_counts_144 : decode cX9_counts 144 = .ok (.iaload, 1) := by decide +kernel
theorem dX9_counts_145 : decode cX9_counts 145 = .ok (.iload 5, 2) := by decide +kernel
theorem dX9_counts_147 : decode cX9_counts 147 = .ok (.aload_n 0, 1) := by decide +kernel
theorem dX9_counts_148 : decode cX9_counts 148 = .ok (.getfield 7, 3) := by decide +kernel
theorem dX9_counts_151 : decode cX9_counts 151 = .ok (.iconst 5, 1) := by decide +kernel
theorem dX9_counts_152 : decode cX9_counts 152 = .ok (.iaload, 1) := by decide +kernel
theorem dX9_counts_153 : decode cX9_counts 153 = .ok (.if_icmp .lt 7, 3) := by decide +kernel
theorem dX9_counts_156 : decode cX9_counts 156 = .ok (.iconst 1, 1) := by decide +kernel
theorem dX9_counts_157 : decode cX9_counts 157 = .ok (.goto 4, 3) := by decide +kernel
theorem dX9_counts_160 : decode cX9_counts 160 = .ok (.iconst 0, 1) := by decide +kernel
theorem dX9_counts_161 : decode cX9_counts 161 = .ok (.iadd, 1) := by decide +kernel
theorem dX9_counts_162 : decode cX9_counts 162 = .ok (.iastore, 1) := by decide +kernel
theorem dX9_counts_163 : decode cX9_counts 163 = .ok (.return_, 1) := by decide +kernel
theorem dX9_isAhead_0 : decode cX9_isAhead 0 = .ok (.aload_n 0, 1) := by decide +kernel
theorem dX9_isAhead_1 : decode cX9_isAhead 1 = .ok (.getfield 47, 3) := by decide +kernel
theorem dX9_isAhead_4 : decode cX9_isAhead 4 = .ok (.iload_n 1, 1) := by decide +kernel
theorem dX9_isAhead_5 : decode cX9_isAhead 5 = .ok (.iaload, 1) := by decide +kernel
theorem dX9_isAhead_6 : decode cX9_isAhead 6 = .ok (.aload_n 0, 1) := by decide +kernel
theorem dX9_isAhead_7 : decode cX9_isAhead 7 = .ok (.getfield 47, 3) := by decide +kernel
theorem dX9_isAhead_10 : decode cX9_isAhead 10 = .ok (.iload_n 2, 1) := by decide +kernel
theorem dX9_isAhead_11 : decode cX9_isAhead 11 = .ok (.iaload, 1) := by decide +kernel
theorem dX9_isAhead_12 : decode cX9_isAhead 12 = .ok (.if_icmp .eq 24, 3) := by decide +kernel
theorem dX9_isAhead_15 : decode cX9_isAhead 15 = .ok (.aload_n 0, 1) := by decide +kernel
theorem dX9_isAhead_16 : decode cX9_isAhead 16 = .ok (.getfield 47, 3) := by decide +kernel
theorem dX9_isAhead_19 : decode cX9_isAhead 19 = .ok (.iload_n 1, 1) := by decide +kernel
theorem dX9_isAhead_20 : decode cX9_isAhead 20 = .ok (.iaload, 1) := by decide +kernel
theorem dX9_isAhead_21 : decode cX9_isAhead 21 = .ok (.aload_n 0, 1) := by decide +kernel
theorem dX9_isAhead_22 : decode cX9_isAhead 22 = .ok (.getfield 47, 3) := by decide +kernel
theorem dX9_isAhead_25 : decode cX9_isAhead 25 = .ok (.iload_n 2, 1) := by decide +kernel
theorem dX9_isAhead_26 : decode cX9_isAhead 26 = .ok (.iaload, 1) := by decide +kernel
theorem dX9_isAhead_27 : decode cX9_isAhead 27 = .ok (.if_icmp .ge 7, 3) := by decide +kernel
theorem dX9_isAhead_30 : decode cX9_isAhead 30 = .ok (.iconst 1, 1) := by decide +kernel
theorem dX9_isAhead_31 : decode cX9_isAhead 31 = .ok (.goto 4, 3) := by decide +kernel
theorem dX9_isAhead_34 : decode cX9_isAhead 34 = .ok (.iconst 0, 1) := by decide +kernel
theorem dX9_isAhead_35 : decode cX9_isAhead 35 = .ok (.ireturn, 1) := by decide +kernel
theorem dX9_isAhead_36 : decode cX9_isAhead 36 = .ok (.aload_n 0, 1) := by decide +kernel
theorem dX9_isAhead_37 : decode cX9_isAhead 37 = .ok (.getfield 44, 3) := by decide +kernel
theorem dX9_isAhead_40 : decode cX9_isAhead 40 = .ok (.iload_n 1, 1) := by decide +kernel
theorem dX9_isAhead_41 : decode cX9_isAhead 41 = .ok (.iaload, 1) := by decide +kernel
theorem dX9_isAhead_42 : decode cX9_isAhead 42 = .ok (.aload_n 0, 1) := by decide +kernel
theorem dX9_isAhead_43 : decode cX9_isAhead 43 = .ok (.getfield 44, 3) := by decide +kernel
theorem dX9_isAhead_46 : decode cX9_isAhead 46 = .ok (.iload_n 2, 1) := by decide +kernel
theorem dX9_isAhead_47 : decode cX9_isAhead 47 = .ok (.iaload, 1) := by decide +kernel
theorem dX9_isAhead_48 : decode cX9_isAhead 48 = .ok (.if_icmp .lt 33, 3) := by decide +kernel
theorem dX9_isAhead_51 : decode cX9_isAhead 51 = .ok (.aload_n 0, 1) := by decide +kernel
theorem dX9_isAhead_52 : decode cX9_isAhead 52 = .ok (.getfield 44, 3) := by decide +kernel
theorem dX9_isAhead_55 : decode cX9_isAhead 55 = .ok (.iload_n 1, 1) := by decide +kernel
theorem dX9_isAhead_56 : decode cX9_isAhead 56 = .ok (.iaload, 1) := by decide +kernel
theorem dX9_isAhead_57 : decode cX9_isAhead 57 = .ok (.aload_n 0, 1) := by decide +kernel
theorem dX9_isAhead_58 : decode cX9_isAhead 58 = .ok (.getfield 44, 3) := by decide +kernel
theorem dX9_isAhead_61 : decode cX9_isAhead 61 = .ok (.iload_n 2, 1) := by decide +kernel
theorem dX9_isAhead_62 : decode cX9_isAhead 62 = .ok (.iaload, 1) := by decide +kernel
theorem dX9_isAhead_63 : decode cX9_isAhead 63 = .ok (.if_icmp .ne 22, 3) := by decide +kernel
theorem dX9_isAhead_66 : decode cX9_isAhead 66 = .ok (.aload_n 0, 1) := by decide +kernel
theorem dX9_isAhead_67 : decode cX9_isAhead 67 = .ok (.getfield 50, 3) := by decide +kernel
theorem dX9_isAhead_70 : decode cX9_isAhead 70 = .ok (.iload_n 1, 1) := by decide +kernel
theorem dX9_isAhead_71 : decode cX9_isAhead 71 = .ok (.iaload, 1) := by decide +kernel
theorem dX9_isAhead_72 : decode cX9_isAhead 72 = .ok (.aload_n 0, 1) := by decide +kernel
theorem dX9_isAhead_73 : decode cX9_isAhead 73 = .ok (.getfield 50, 3) := by decide +kernel
theorem dX9_isAhead_76 : decode cX9_isAhead 76 = .ok (.iload_n 2, 1) := by decide +kernel
theorem dX9_isAhead_77 : decode cX9_isAhead 77 = .ok (.iaload, 1) := by decide +kernel
theorem dX9_isAhead_78 : decode cX9_isAhead 78 = .ok (.if_icmp .ge 7, 3) := by decide +kernel
theorem dX9_isAhead_81 : decode cX9_isAhead 81 = .ok (.iconst 1, 1) := by decide +kernel
theorem dX9_isAhead_82 : decode cX9_isAhead 82 = .ok (.goto 4, 3) := by decide +kernel
theorem dX9_isAhead_85 : decode cX9_isAhead 85 = .ok (.iconst 0, 1) := by decide +kernel
theorem dX9_isAhead_86 : decode cX9_isAhead 86 = .ok (.ireturn, 1) := by decide +kernel
theorem dX9_numbersEnded_0 : decode cX9_numbersEnded 0 = .ok (.aload_n 0, 1) := by decide +kernel
theorem dX9_numbersEnded_1 : decode cX9_numbersEnded 1 = .ok (.iconst 0, 1) := by decide +kernel
theorem dX9_numbersEnded_2 : decode cX9_numbersEnded 2 = .ok (.putfield 157, 3) := by decide +kernel
theorem dX9_numbersEnded_5 : decode cX9_numbersEnded 5 = .ok (.aload_n 0, 1) := by decide +kernel
theorem dX9_numbersEnded_6 : decode cX9_numbersEnded 6 = .ok (.iconst 0, 1) := by decide +kernel
theorem dX9_numbersEnded_7 : decode cX9_numbersEnded 7 = .ok (.putfield 186, 3) := by decide +kernel
theorem dX9_numbersEnded_10 : decode cX9_numbersEnded 10 = .ok (.iconst 0, 1) := by decide +kernel
theorem dX9_numbersEnded_11 : decode cX9_numbersEnded 11 = .ok (.istore_n 1, 1) := by decide +kernel
theorem dX9_numbersEnded_12 : decode cX9_numbersEnded 12 = .ok (.iload_n 1, 1) := by decide +kernel
theorem dX9_numbersEnded_13 : decode cX9_numbersEnded 13 = .ok (.aload_n 0, 1) := by decide +kernel
theorem dX9_numbersEnded_14 : decode cX9_numbersEnded 14 = .ok (.getfield 176, 3) := by decide +kernel
theorem dX9_numbersEnded_17 : decode cX9_numbersEnded 17 = .ok (.if_icmp .ge 104, 3) := by decide +kernel
theorem dX9_numbersEnded_20 : decode cX9_numbersEnded 20 = .ok (.aload_n 0, 1) := by decide +kernel
theorem dX9_numbersEnded_21 : decode cX9_numbersEnded 21 = .ok (.getfield 47, 3) := by decide +kernel
theorem dX9_numbersEnded_24 : decode cX9_numbersEnded 24 = .ok (.iload_n 1, 1) := by decide +kernel
theorem dX9_numbersEnded_25 : decode cX9_numbersEnded 25 = .ok (.iaload, 1) := by decide +kernel
theorem dX9_numbersEnded_26 : decode cX9_numbersEnded 26 = .ok (.aload_n 0, 1) := by decide +kernel
theorem dX9_numbersEnded_27 : decode cX9_numbersEnded 27 = .ok (.invokevirtual 154, 3) := by decide +kernel
theorem dX9_numbersEnded_30 : decode cX9_numbersEnded 30 = .ok (.iconst 1, 1) := by decide +kernel
theorem dX9_numbersEnded_31 : decode cX9_numbersEnded 31 = .ok (.isub, 1) := by decide +kernel
theorem dX9_numbersEnded_32 : decode cX9_numbersEnded 32 = .ok (.if_icmp .ge 68, 3) := by decide +kernel
theorem dX9_numbersEnded_35 : decode cX9_numbersEnded 35 = .ok (.aload_n 0, 1) := by decide +kernel
theorem dX9_numbersEnded_36 : decode cX9_numbersEnded 36 = .ok (.getfield 157, 3) := by decide +kernel
theorem dX9_numbersEnded_39 : decode cX9_numbersEnded 39 = .ok (.istore_n 2, 1) := by decide +kernel
theorem dX9_numbersEnded_40 : decode cX9_numbersEnded 40 = .ok (.iload_n 2, 1) := by decide +kernel
theorem dX9_numbersEnded_41 : decode cX9_numbersEnded 41 = .ok (.ifCond .le 39, 3) := by decide +kernel
theorem dX9_numbersEnded_44 : decode cX9_numbersEnded 44 = .ok (.aload_n 0, 1) := by decide +kernel
theorem dX9_numbersEnded_45 : decode cX9_numbersEnded 45 = .ok (.iload_n 1, 1) := by decide +kernel
theorem dX9_numbersEnded_46 : decode cX9_numbersEnded 46 = .ok (.aload_n 0, 1) := by decide +kernel
theorem dX9_numbersEnded_47 : decode cX9_numbersEnded 47 = .ok (.getfield 68, 3) := by decide +kernel
theorem dX9_numbersEnded_50 : decode cX9_numbersEnded 50 = .ok (.iload_n 2, 1) := by decide +kernel
theorem dX9_numbersEnded_51 : decode cX9_numbersEnded 51 = .ok (.iconst 1, 1) := by decide +kernel
theorem dX9_numbersEnded_52 : decode cX9_numbersEnded 52 = .ok (.isub, 1) := by decide +kernel
theorem dX9_numbersEnded_53 : decode cX9_numbersEnded 53 = .ok (.iaload, 1) := by decide +kernel
theorem dX9_numbersEnded_54 : decode cX9_numbersEnded 54 = .ok (.invokevirtual 189, 3) := by decide +kernel
theorem dX9_numbersEnded_57 : decode cX9_numbersEnded 57 = .ok (.ifCond .eq 23, 3) := by decide +kernel
theorem dX9_numbersEnded_60 : decode cX9_numbersEnded 60 = .ok (.aload_n 0, 1) := by decide +kernel
theorem dX9_numbersEnded_61 : decode cX9_numbersEnded 61 = .ok (.getfield 68, 3) := by decide +kernel
theorem dX9_numbersEnded_64 : decode cX9_numbersEnded 64 = .ok (.iload_n 2, 1) := by decide +kernel
theorem dX9_numbersEnded_65 : decode cX9_numbersEnded 65 = .ok (.aload_n 0, 1) := by decide +kernel
theorem dX9_numbersEnded_66 : decode cX9_numbersEnded 66 = .ok (.getfield 68, 3) := by decide +kernel
theorem dX9_numbersEnded_69 : decode cX9_numbersEnded 69 = .ok (.iload_n 2, 1) := by decide +kernel
theorem dX9_numbersEnded_70 : decode cX9_numbersEnded 70 = .ok (.iconst 1, 1) := by decide +kernel
theorem dX9_numbersEnded_71 : decode cX9_numbersEnded 71 = .ok (.isub, 1) := by decide +kernel
theorem dX9_numbersEnded_72 : decode cX9_numbersEnded 72 = .ok (.iaload, 1) := by decide +kernel
theorem dX9_numbersEnded_73 : decode cX9_numbersEnded 73 = .ok (.iastore, 1) := by decide +kernel
theorem dX9_numbersEnded_74 : decode cX9_numbersEnded 74 = .ok (.iinc 2 (-1), 3) := by decide +kernel
theorem dX9_numbersEnded_77 : decode cX9_numbersEnded 77 = .ok (.goto (-37), 3) := by decide +kernel
theorem dX9_numbersEnded_80 : decode cX9_numbersEnded 80 = .ok (.aload_n 0, 1) := by decide +kernel
theorem dX9_numbersEnded_81 : decode cX9_numbersEnded 81 = .ok (.getfield 68, 3) := by decide +kernel
theorem dX9_numbersEnded_84 : decode cX9_numbersEnded 84 = .ok (.iload_n 2, 1) := by decide +kernel
theorem dX9_numbersEnded_85 : decode cX9_numbersEnded 85 = .ok (.iload_n 1, 1) := by decide +kernel
theorem dX9_numbersEnded_86 : decode cX9_numbersEnded 86 = .ok (.iastore, 1) := by decide +kernel
theorem dX9_numbersEnded_87 : decode cX9_numbersEnded 87 = .ok (.aload_n 0, 1) := by decide +kernel
theorem dX9_numbersEnded_88 : decode cX9_numbersEnded 88 = .ok (.dup, 1) := by decide +kernel
theorem dX9_numbersEnded_89 : decode cX9_numbersEnded 89 = .ok (.getfield 157, 3) := by decide +kernel
theorem dX9_numbersEnded_92 : decode cX9_numbersEnded 92 = .ok (.iconst 1, 1) := by decide +kernel
theorem dX9_numbersEnded_93 : decode cX9_numbersEnded 93 = .ok (.iadd, 1) := by decide +kernel
theorem dX9_numbersEnded_94 : decode cX9_numbersEnded 94 = .ok (.putfield 157, 3) := by decide +kernel
theorem dX9_numbersEnded_97 : decode cX9_numbersEnded 97 = .ok (.goto 18, 3) := by decide +kernel
theorem dX9_numbersEnded_100 : decode cX9_numbersEnded 100 = .ok (.aload_n 0, 1) := by decide +kernel
theorem dX9_numbersEnded_101 : decode cX9_numbersEnded 101 = .ok (.dup, 1) := by decide +kernel
theorem dX9_numbersEnded_102 : decode cX9_numbersEnded 102 = .ok (.getfield 186, 3) := by decide +kernel
theorem dX9_numbersEnded_105 : decode cX9_numbersEnded 105 = .ok (.aload_n 0, 1) := by decide +kernel
theorem dX9_numbersEnded_106 : decode cX9_numbersEnded 106 = .ok (.getfield 59, 3) := by decide +kernel
theorem dX9_numbersEnded_109 : decode cX9_numbersEnded 109 = .ok (.iload_n 1, 1) := by decide +kernel
theorem dX9_numbersEnded_110 : decode cX9_numbersEnded 110 = .ok (.iaload, 1) := by decide +kernel
theorem dX9_numbersEnded_111 : decode cX9_numbersEnded 111 = .ok (.iadd, 1) := by decide +kernel
theorem dX9_numbersEnded_112 : decode cX9_numbersEnded 112 = .ok (.putfield 186, 3) := by decide +kernel
theorem dX9_numbersEnded_115 : decode cX9_numbersEnded 115 = .ok (.iinc 1 1, 3) := by decide +kernel
theorem dX9_numbersEnded_118 : decode cX9_numbersEnded 118 = .ok (.goto (-106), 3) := by decide +kernel
theorem dX9_numbersEnded_121 : decode cX9_numbersEnded 121 = .ok (.return_, 1) := by decide +kernel
theorem dX9_laysBlobs_0 : decode cX9_laysBlobs 0 = .ok (.aload_n 0, 1) := by decide +kernel
theorem dX9_laysBlobs_1 : decode cX9_laysBlobs 1 = .ok (.invokevirtual 193, 3) := by decide +kernel
theorem dX9_laysBlobs_4 : decode cX9_laysBlobs 4 = .ok (.aload_n 0, 1) := by decide +kernel
theorem dX9_laysBlobs_5 : decode cX9_laysBlobs 5 = .ok (.iconst 0, 1) := by decide +kernel
theorem dX9_laysBlobs_6 : decode cX9_laysBlobs 6 = .ok (.putfield 176, 3) := by decide +kernel
theorem dX9_laysBlobs_9 : decode cX9_laysBlobs 9 = .ok (.iconst 0, 1) := by decide +kernel
theorem dX9_laysBlobs_10 : decode cX9_laysBlobs 10 = .ok (.istore_n 1, 1) := by decide +kernel
theorem dX9_laysBlobs_11 : decode cX9_laysBlobs 11 = .ok (.iload_n 1, 1) := by decide +kernel
theorem dX9_laysBlobs_12 : decode cX9_laysBlobs 12 = .ok (.aload_n 0, 1) := by decide +kernel
theorem dX9_laysBlobs_13 : decode cX9_laysBlobs 13 = .ok (.invokevirtual 154, 3) := by decide +kernel
theorem dX9_laysBlobs_16 : decode cX9_laysBlobs 16 = .ok (.if_icmp .ge 33, 3) := by decide +kernel
theorem dX9_laysBlobs_19 : decode cX9_laysBlobs 19 = .ok (.iconst 0, 1) := by decide +kernel
theorem dX9_laysBlobs_20 : decode cX9_laysBlobs 20 = .ok (.istore_n 2, 1) := by decide +kernel
theorem dX9_laysBlobs_21 : decode cX9_laysBlobs 21 = .ok (.iload_n 2, 1) := by decide +kernel
theorem dX9_laysBlobs_22 : decode cX9_laysBlobs 22 = .ok (.aload_n 0, 1) := by decide +kernel
theorem dX9_laysBlobs_23 : decode cX9_laysBlobs 23 = .ok (.getfield 7, 3) := by decide +kernel
theorem dX9_laysBlobs_26 : decode cX9_laysBlobs 26 = .ok (.iconst 0, 1) := by decide +kernel
theorem dX9_laysBlobs_27 : decode cX9_laysBlobs 27 = .ok (.iaload, 1) := by decide +kernel
theorem dX9_laysBlobs_28 : decode cX9_laysBlobs 28 = .ok (.if_icmp .ge 15, 3) := by decide +kernel
theorem dX9_laysBlobs_31 : decode cX9_laysBlobs 31 = .ok (.aload_n 0, 1) := by decide +kernel
theorem dX9_laysBlobs_32 : decode cX9_laysBlobs 32 = .ok (.iload_n 1, 1) := by decide +kernel
theorem dX9_laysBlobs_33 : decode cX9_laysBlobs 33 = .ok (.iload_n 2, 1) := by decide +kernel
theorem dX9_laysBlobs_34 : decode cX9_laysBlobs 34 = .ok (.invokevirtual 196, 3) := by decide +kernel
theorem dX9_laysBlobs_37 : decode cX9_laysBlobs 37 = .ok (.iinc 2 1, 3) := by decide +kernel
theorem dX9_laysBlobs_40 : decode cX9_laysBlobs 40 = .ok (.goto (-19), 3) := by decide +kernel
theorem dX9_laysBlobs_43 : decode cX9_laysBlobs 43 = .ok (.iinc 1 1, 3) := by decide +kernel
theorem dX9_laysBlobs_46 : decode cX9_laysBlobs 46 = .ok (.goto (-35), 3) := by decide +kernel
theorem dX9_laysBlobs_49 : decode cX9_laysBlobs 49 = .ok (.iconst 0, 1) := by decide +kernel
theorem dX9_laysBlobs_50 : decode cX9_laysBlobs 50 = .ok (.istore_n 1, 1) := by decide +kernel
theorem dX9_laysBlobs_51 : decode cX9_laysBlobs 51 = .ok (.iload_n 1, 1) := by decide +kernel
theorem dX9_laysBlobs_52 : decode cX9_laysBlobs 52 = .ok (.aload_n 0, 1) := by decide +kernel
theorem dX9_laysBlobs_53 : decode cX9_laysBlobs 53 = .ok (.invokevirtual 154, 3) := by decide +kernel
theorem dX9_laysBlobs_56 : decode cX9_laysBlobs 56 = .ok (.if_icmp .ge 47, 3) := by decide +kernel
theorem dX9_laysBlobs_59 : decode cX9_laysBlobs 59 = .ok (.iconst 0, 1) := by decide +kernel
theorem dX9_laysBlobs_60 : decode cX9_laysBlobs 60 = .ok (.istore_n 2, 1) := by decide +kernel
theorem dX9_laysBlobs_61 : decode cX9_laysBlobs 61 = .ok (.iload_n 2, 1) := by decide +kernel
theorem dX9_laysBlobs_62 : decode cX9_laysBlobs 62 = .ok (.aload_n 0, 1) := by decide +kernel
theorem dX9_laysBlobs_63 : decode cX9_laysBlobs 63 = .ok (.getfield 7, 3) := by decide +kernel
theorem dX9_laysBlobs_66 : decode cX9_laysBlobs 66 = .ok (.iconst 0, 1) := by decide +kernel
theorem dX9_laysBlobs_67 : decode cX9_laysBlobs 67 = .ok (.iaload, 1) := by decide +kernel
theorem dX9_laysBlobs_68 : decode cX9_laysBlobs 68 = .ok (.if_icmp .ge 29, 3) := by decide +kernel
theorem dX9_laysBlobs_71 : decode cX9_laysBlobs 71 = .ok (.aload_n 0, 1) := by decide +kernel
theorem dX9_laysBlobs_72 : decode cX9_laysBlobs 72 = .ok (.getfield 35, 3) := by decide +kernel
theorem dX9_laysBlobs_75 : decode cX9_laysBlobs 75 = .ok (.bipush 16, 2) := by decide +kernel
theorem dX9_laysBlobs_77 : decode cX9_laysBlobs 77 = .ok (.iload_n 1, 1) := by decide +kernel
theorem dX9_laysBlobs_78 : decode cX9_laysBlobs 78 = .ok (.imul, 1) := by decide +kernel
theorem dX9_laysBlobs_79 : decode cX9_laysBlobs 79 = .ok (.iload_n 2, 1) := by decide +kernel
theorem dX9_laysBlobs_80 : decode cX9_laysBlobs 80 = .ok (.iadd, 1) := by decide +kernel
theorem dX9_laysBlobs_81 : decode cX9_laysBlobs 81 = .ok (.iaload, 1) := by decide +kernel
theorem dX9_laysBlobs_82 : decode cX9_laysBlobs 82 = .ok (.ifCond .le 9, 3) := by decide +kernel
theorem dX9_laysBlobs_85 : decode cX9_laysBlobs 85 = .ok (.aload_n 0, 1) := by decide +kernel
theorem dX9_laysBlobs_86 : decode cX9_laysBlobs 86 = .ok (.iload_n 1, 1) := by decide +kernel
theorem dX9_laysBlobs_87 : decode cX9_laysBlobs 87 = .ok (.iload_n 2, 1) := by decide +kernel
theorem dX9_laysBlobs_88 : decode cX9_laysBlobs 88 = .ok (.invokevirtual 199, 3) := by decide +kernel
theorem dX9_laysBlobs_91 : decode cX9_laysBlobs 91 = .ok (.iinc 2 1, 3) := by decide +kernel
theorem dX9_laysBlobs_94 : decode cX9_laysBlobs 94 = .ok (.goto (-33), 3) := by decide +kernel
theorem dX9_laysBlobs_97 : decode cX9_laysBlobs 97 = .ok (.iinc 1 1, 3) := by decide +kernel
theorem dX9_laysBlobs_100 : decode cX9_laysBlobs 100 = .ok (.goto (-49), 3) := by decide +kernel
theorem dX9_laysBlobs_103 : decode cX9_laysBlobs 103 = .ok (.aload_n 0, 1) := by decide +kernel
theorem dX9_laysBlobs_104 : decode cX9_laysBlobs 104 = .ok (.invokevirtual 202, 3) := by decide +kernel
theorem dX9_laysBlobs_107 : decode cX9_laysBlobs 107 = .ok (.return_, 1) := by decide +kernel
theorem dX9_valueOf_0 : decode cX9_valueOf 0 = .ok (.iload_n 2, 1) := by decide +kernel
theorem dX9_valueOf_1 : decode cX9_valueOf 1 = .ok (.ifCond .ne 19, 3) := by decide +kernel
theorem dX9_valueOf_4 : decode cX9_valueOf 4 = .ok (.aload_n 0, 1) := by decide +kernel
theorem dX9_valueOf_5 : decode cX9_valueOf 5 = .ok (.getfield 62, 3) := by decide +kernel
theorem dX9_valueOf_8 : decode cX9_valueOf 8 = .ok (.iload_n 1, 1) := by decide +kernel
theorem dX9_valueOf_9 : decode cX9_valueOf 9 = .ok (.iaload, 1) := by decide +kernel
theorem dX9_valueOf_10 : decode cX9_valueOf 10 = .ok (.aload_n 0, 1) := by decide +kernel
theorem dX9_valueOf_11 : decode cX9_valueOf 11 = .ok (.getfield 59, 3) := by decide +kernel
theorem dX9_valueOf_14 : decode cX9_valueOf 14 = .ok (.iload_n 1, 1) := by decide +kernel
theorem dX9_valueOf_15 : decode cX9_valueOf 15 = .ok (.iaload, 1) := by decide +kernel
theorem dX9_valueOf_16 : decode cX9_valueOf 16 = .ok (.idiv, 1) := by decide +kernel
theorem dX9_valueOf_17 : decode cX9_valueOf 17 = .ok (.goto 46, 3) := by decide +kernel
theorem dX9_valueOf_20 : decode cX9_valueOf 20 = .ok (.iload_n 2, 1) := by decide +kernel
theorem dX9_valueOf_21 : decode cX9_valueOf 21 = .ok (.iconst 1, 1) := by decide +kernel
theorem dX9_valueOf_22 : decode cX9_valueOf 22 = .ok (.if_icmp .ne 12, 3) := by decide +kernel
theorem dX9_valueOf_25 : decode cX9_valueOf 25 = .ok (.aload_n 0, 1) := by decide +kernel
theorem dX9_valueOf_26 : decode cX9_valueOf 26 = .ok (.getfield 65, 3) := by decide +kernel
theorem dX9_valueOf_29 : decode cX9_valueOf 29 = .ok (.iload_n 1, 1) := by decide +kernel
theorem dX9_valueOf_30 : decode cX9_valueOf 30 = .ok (.iaload, 1) := by decide +kernel
theorem dX9_valueOf_31 : decode cX9_valueOf 31 = .ok (.goto 32, 3) := by decide +kernel
theorem dX9_valueOf_34 : decode cX9_valueOf 34 = .ok (.iload_n 2, 1) := by decide +kernel
theorem dX9_valueOf_35 : decode cX9_valueOf 35 = .ok (.iconst 2, 1) := by decide +kernel
theorem dX9_valueOf_36 : decode cX9_valueOf 36 = .ok (.if_icmp .ne 12, 3) := by decide +kernel
theorem dX9_valueOf_39 : decode cX9_valueOf 39 = .ok (.aload_n 0, 1) := by decide +kernel
theorem dX9_valueOf_40 : decode cX9_valueOf 40 = .ok (.getfield 59, 3) := by decide +kernel
theorem dX9_valueOf_43 : decode cX9_valueOf 43 = .ok (.iload_n 1, 1) := by decide +kernel
theorem dX9_valueOf_44 : decode cX9_valueOf 44 = .ok (.iaload, 1) := by decide +kernel
theorem dX9_valueOf_45 : decode cX9_valueOf 45 = .ok (.goto 18, 3) := by decide +kernel
theorem dX9_valueOf_48 : decode cX9_valueOf 48 = .ok (.aload_n 0, 1) := by decide +kernel
theorem dX9_valueOf_49 : decode cX9_valueOf 49 = .ok (.getfield 47, 3) := by decide +kernel
theorem dX9_valueOf_52 : decode cX9_valueOf 52 = .ok (.iload_n 1, 1) := by decide +kernel
theorem dX9_valueOf_53 : decode cX9_valueOf 53 = .ok (.iaload, 1) := by decide +kernel
theorem dX9_valueOf_54 : decode cX9_valueOf 54 = .ok (.aload_n 0, 1) := by decide +kernel
theorem dX9_valueOf_55 : decode cX9_valueOf 55 = .ok (.getfield 44, 3) := by decide +kernel
theorem dX9_valueOf_58 : decode cX9_valueOf 58 = .ok (.iload_n 1, 1) := by decide +kernel
theorem dX9_valueOf_59 : decode cX9_valueOf 59 = .ok (.iaload, 1) := by decide +kernel
theorem dX9_valueOf_60 : decode cX9_valueOf 60 = .ok (.isub, 1) := by decide +kernel
theorem dX9_valueOf_61 : decode cX9_valueOf 61 = .ok (.iconst 1, 1) := by decide +kernel
theorem dX9_valueOf_62 : decode cX9_valueOf 62 = .ok (.iadd, 1) := by decide +kernel
theorem dX9_valueOf_63 : decode cX9_valueOf 63 = .ok (.ireturn, 1) := by decide +kernel
theorem dX9_ruleOf_0 : decode cX9_ruleOf 0 = .ok (.iconst 0, 1) := by decide +kernel
theorem dX9_ruleOf_1 : decode cX9_ruleOf 1 = .ok (.istore_n 2, 1) := by decide +kernel
theorem dX9_ruleOf_2 : decode cX9_ruleOf 2 = .ok (.iload_n 2, 1) := by decide +kernel
theorem dX9_ruleOf_3 : decode cX9_ruleOf 3 = .ok (.aload_n 0, 1) := by decide +kernel
theorem dX9_ruleOf_4 : decode cX9_ruleOf 4 = .ok (.getfield 88, 3) := by decide +kernel
theorem dX9_ruleOf_7 : decode cX9_ruleOf 7 = .ok (.if_icmp .ge 31, 3) := by decide +kernel
theorem dX9_ruleOf_10 : decode cX9_ruleOf 10 = .ok (.aload_n 0, 1) := by decide +kernel
theorem dX9_ruleOf_11 : decode cX9_ruleOf 11 = .ok (.iload_n 1, 1) := by decide +kernel
theorem dX9_ruleOf_12 : decode cX9_ruleOf 12 = .ok (.aload_n 0, 1) := by decide +kernel
theorem dX9_ruleOf_13 : decode cX9_ruleOf 13 = .ok (.getfield 13, 3) := by decide +kernel
theorem dX9_ruleOf_16 : decode cX9_ruleOf 16 = .ok (.iload_n 2, 1) := by decide +kernel
theorem dX9_ruleOf_17 : decode cX9_ruleOf 17 = .ok (.iaload, 1) := by decide +kernel
theorem dX9_ruleOf_18 : decode cX9_ruleOf 18 = .ok (.invokevirtual 205, 3) := by decide +kernel
theorem dX9_ruleOf_21 : decode cX9_ruleOf 21 = .ok (.aload_n 0, 1) := by decide +kernel
theorem dX9_ruleOf_22 : decode cX9_ruleOf 22 = .ok (.getfield 71, 3) := by decide +kernel
theorem dX9_ruleOf_25 : decode cX9_ruleOf 25 = .ok (.iload_n 2, 1) := by decide +kernel
theorem dX9_ruleOf_26 : decode cX9_ruleOf 26 = .ok (.iaload, 1) := by decide +kernel
theorem dX9_ruleOf_27 : decode cX9_ruleOf 27 = .ok (.if_icmp .lt 5, 3) := by decide +kernel
theorem dX9_ruleOf_30 : decode cX9_ruleOf 30 = .ok (.iload_n 2, 1) := by decide +kernel
theorem dX9_ruleOf_31 : decode cX9_ruleOf 31 = .ok (.ireturn, 1) := by decide +kernel
theorem dX9_ruleOf_32 : decode cX9_ruleOf 32 = .ok (.iinc 2 1, 3) := by decide +kernel
theorem dX9_ruleOf_35 : decode cX9_ruleOf 35 = .ok (.goto (-33), 3) := by decide +kernel
theorem dX9_ruleOf_38 : decode cX9_ruleOf 38 = .ok (.bipush (-4), 2) := by decide +kernel
theorem dX9_ruleOf_40 : decode cX9_ruleOf 40 = .ok (.ireturn, 1) := by decide +kernel
theorem dX9_perValve_0 : decode cX9_perValve 0 = .ok (.aload_n 0, 1) := by decide +kernel
theorem dX9_perValve_1 : decode cX9_perValve 1 = .ok (.getfield 7, 3) := by decide +kernel
theorem dX9_perValve_4 : decode cX9_perValve 4 = .ok (.iconst 0, 1) := by decide +kernel
theorem dX9_perValve_5 : decode cX9_perValve 5 = .ok (.iaload, 1) := by decide +kernel
theorem dX9_perValve_6 : decode cX9_perValve 6 = .ok (.aload_n 0, 1) := by decide +kernel
theorem dX9_perValve_7 : decode cX9_perValve 7 = .ok (.getfield 7, 3) := by decide +kernel
theorem dX9_perValve_10 : decode cX9_perValve 10 = .ok (.iconst 1, 1) := by decide +kernel
theorem dX9_perValve_11 : decode cX9_perValve 11 = .ok (.iaload, 1) := by decide +kernel
theorem dX9_perValve_12 : decode cX9_perValve 12 = .ok (.idiv, 1) := by decide +kernel
theorem dX9_perValve_13 : decode cX9_perValve 13 = .ok (.ireturn, 1) := by decide +kernel
theorem dX9_wanted_0 : decode cX9_wanted 0 = .ok (.aload_n 0, 1) := by decide +kernel
theorem dX9_wanted_1 : decode cX9_wanted 1 = .ok (.getfield 44, 3) := by decide +kernel
theorem dX9_wanted_4 : decode cX9_wanted 4 = .ok (.iload_n 1, 1) := by decide +kernel
theorem dX9_wanted_5 : decode cX9_wanted 5 = .ok (.iaload, 1) := by decide +kernel
theorem dX9_wanted_6 : decode cX9_wanted 6 = .ok (.aload_n 0, 1) := by decide +kernel
theorem dX9_wanted_7 : decode cX9_wanted 7 = .ok (.getfield 7, 3) := by decide +kernel
theorem dX9_wanted_10 : decode cX9_wanted 10 = .ok (.iconst 2, 1) := by decide +kernel
theorem dX9_wanted_11 : decode cX9_wanted 11 = .ok (.iaload, 1) := by decide +kernel
theorem dX9_wanted_12 : decode cX9_wanted 12 = .ok (.iadd, 1) := by decide +kernel
theorem dX9_wanted_13 : decode cX9_wanted 13 = .ok (.aload_n 0, 1) := by decide +kernel
theorem dX9_wanted_14 : decode cX9_wanted 14 = .ok (.getfield 7, 3) := by decide +kernel
theorem dX9_wanted_17 : decode cX9_wanted 17 = .ok (.iconst 3, 1) := by decide +kernel
theorem dX9_wanted_18 : decode cX9_wanted 18 = .ok (.iaload, 1) := by decide +kernel
theorem dX9_wanted_19 : decode cX9_wanted 19 = .ok (.isub, 1) := by decide +kernel
theorem dX9_wanted_20 : decode cX9_wanted 20 = .ok (.ireturn, 1) := by decide +kernel
theorem dX9_wants_0 : decode cX9_wants 0 = .ok (.aload_n 0, 1) := by decide +kernel
theorem dX9_wants_1 : decode cX9_wants 1 = .ok (.getfield 47, 3) := by decide +kernel
theorem dX9_wants_4 : decode cX9_wants 4 = .ok (.iload_n 1, 1) := by decide +kernel
theorem dX9_wants_5 : decode cX9_wants 5 = .ok (.iaload, 1) := by decide +kernel
theorem dX9_wants_6 : decode cX9_wants 6 = .ok (.iconst 1, 1) := by decide +kernel
theorem dX9_wants_7 : decode cX9_wants 7 = .ok (.iadd, 1) := by decide +kernel
theorem dX9_wants_8 : decode cX9_wants 8 = .ok (.istore_n 2, 1) := by decide +kernel
theorem dX9_wants_9 : decode cX9_wants 9 = .ok (.aload_n 0, 1) := by decide +kernel
theorem dX9_wants_10 : decode cX9_wants 10 = .ok (.iload_n 1, 1) := by decide +kernel
theorem dX9_wants_11 : decode cX9_wants 11 = .ok (.invokevirtual 208, 3) := by decide +kernel
theorem dX9_wants_14 : decode cX9_wants 14 = .ok (.iload_n 2, 1) := by decide +kernel
theorem dX9_wants_15 : decode cX9_wants 15 = .ok (.if_icmp .ge 7, 3) := by decide +kernel
theorem dX9_wants_18 : decode cX9_wants 18 = .ok (.iload_n 2, 1) := by decide +kernel
theorem dX9_wants_19 : decode cX9_wants 19 = .ok (.goto 8, 3) := by decide +kernel
theorem dX9_wants_22 : decode cX9_wants 22 = .ok (.aload_n 0, 1) := by decide +kernel
theorem dX9_wants_23 : decode cX9_wants 23 = .ok (.iload_n 1, 1) := by decide +kernel
theorem dX9_wants_24 : decode cX9_wants 24 = .ok (.invokevirtual 208, 3) := by decide +kernel
theorem dX9_wants_27 : decode cX9_wants 27 = .ok (.istore_n 3, 1) := by decide +kernel
theorem dX9_wants_28 : decode cX9_wants 28 = .ok (.aload_n 0, 1) := by decide +kernel
theorem dX9_wants_29 : decode cX9_wants 29 = .ok (.getfield 53, 3) := by decide +kernel
theorem dX9_wants_32 : decode cX9_wants 32 = .ok (.iload_n 1, 1) := by decide +kernel
theorem dX9_wants_33 : decode cX9_wants 33 = .ok (.iaload, 1) := by decide +kernel
theorem dX9_wants_34 : decode cX9_wants 34 = .ok (.aload_n 0, 1) := by decide +kernel
theorem dX9_wants_35 : decode cX9_wants 35 = .ok (.invokevirtual 211, 3) := by decide +kernel
theorem dX9_wants_38 : decode cX9_wants 38 = .ok (.idiv, 1) := by decide +kernel
theorem dX9_wants_39 : decode cX9_wants 39 = .ok (.istore 4, 2) := by decide +kernel
theorem dX9_wants_41 : decode cX9_wants 41 = .ok (.iload 4, 2) := by decide +kernel
theorem dX9_wants_43 : decode cX9_wants 43 = .ok (.aload_n 0, 1) := by decide +kernel
theorem dX9_wants_44 : decode cX9_wants 44 = .ok (.getfield 56, 3) := by decide +kernel
theorem dX9_wants_47 : decode cX9_wants 47 = .ok (.iload_n 1, 1) := by decide +kernel
theorem dX9_wants_48 : decode cX9_wants 48 = .ok (.iaload, 1) := by decide +kernel
theorem dX9_wants_49 : decode cX9_wants 49 = .ok (.aload_n 0, 1) := by decide +kernel
theorem dX9_wants_50 : decode cX9_wants 50 = .ok (.invokevirtual 211, 3) := by decide +kernel
theorem dX9_wants_53 : decode cX9_wants 53 = .ok (.idiv, 1) := by decide +kernel
theorem dX9_wants_54 : decode cX9_wants 54 = .ok (.if_icmp .gt 57, 3) := by decide +kernel
theorem dX9_wants_57 : decode cX9_wants 57 = .ok (.iload_n 3, 1) := by decide +kernel
theorem dX9_wants_58 : decode cX9_wants 58 = .ok (.istore 5, 2) := by decide +kernel
theorem dX9_wants_60 : decode cX9_wants 60 = .ok (.iload 5, 2) := by decide +kernel
theorem dX9_wants_62 : decode cX9_wants 62 = .ok (.aload_n 0, 1) := by decide +kernel
theorem dX9_wants_63 : decode cX9_wants 63 = .ok (.getfield 47, 3) := by decide +kernel
theorem dX9_wants_66 : decode cX9_wants 66 = .ok (.iload_n 1, 1) := by decide +kernel
theorem dX9_wants_67 : decode cX9_wants 67 = .ok (.iaload, 1) := by decide +kernel
theorem dX9_wants_68 : decode cX9_wants 68 = .ok (.aload_n 0, 1) := by decide +kernel
theorem dX9_wants_69 : decode cX9_wants 69 = .ok (.getfield 7, 3) := by decide +kernel
theorem dX9_wants_72 : decode cX9_wants 72 = .ok (.iconst 2, 1) := by decide +kernel
theorem dX9_wants_73 : decode cX9_wants 73 = .ok (.iaload, 1) := by decide +kernel
theorem dX9_wants_74 : decode cX9_wants 74 = .ok (.iadd, 1) := by decide +kernel
theorem dX9_wants_75 : decode cX9_wants 75 = .ok (.aload_n 0, 1) := by decide +kernel
theorem dX9_wants_76 : decode cX9_wants 76 = .ok (.getfield 7, 3) := by decide +kernel
theorem dX9_wants_79 : decode cX9_wants 79 = .ok (.iconst 4, 1) := by decide +kernel
theorem dX9_wants_80 : decode cX9_wants 80 = .ok (.iaload, 1) := by decide +kernel
theorem dX9_wants_81 : decode cX9_wants 81 = .ok (.iadd, 1) := by decide +kernel
theorem dX9_wants_82 : decode cX9_wants 82 = .ok (.if_icmp .gt 23, 3) := by decide +kernel
theorem dX9_wants_85 : decode cX9_wants 85 = .ok (.aload_n 0, 1) := by decide +kernel
theorem dX9_wants_86 : decode cX9_wants 86 = .ok (.getfield 77, 3) := by decide +kernel
theorem dX9_wants_89 : decode cX9_wants 89 = .ok (.bipush 96, 2) := by decide +kernel
theorem dX9_wants_91 : decode cX9_wants 91 = .ok (.iload 4, 2) := by decide +kernel
theorem dX9_wants_93 : decode cX9_wants 93 = .ok (.imul, 1) := by decide +kernel
theorem dX9_wants_94 : decode cX9_wants 94 = .ok (.iload 5, 2) := by decide +kernel
theorem dX9_wants_96 : decode cX9_wants 96 = .ok (.iadd, 1) := by decide +kernel
theorem dX9_wants_97 : decode cX9_wants 97 = .ok (.iconst 1, 1) := by decide +kernel
theorem dX9_wants_98 : decode cX9_wants 98 = .ok (.bastore, 1) := by decide +kernel
theorem dX9_wants_99 : decode cX9_wants 99 = .ok (.iinc 5 1, 3) := by decide +kernel
theorem dX9_wants_102 : decode cX9_wants 102 = .ok (.goto (-42), 3) := by decide +kernel
theorem dX9_wants_105 : decode cX9_wants 105 = .ok (.iinc 4 1, 3) := by decide +kernel
theorem dX9_wants_108 : decode cX9_wants 108 = .ok (.goto (-67), 3) := by decide +kernel
theorem dX9_wants_111 : decode cX9_wants 111 = .ok (.return_, 1) := by decide +kernel
theorem dX9_rests_0 : decode cX9_rests 0 = .ok (.bipush (-4), 2) := by decide +kernel
theorem dX9_rests_2 : decode cX9_rests 2 = .ok (.istore_n 2, 1) := by decide +kernel
theorem dX9_rests_3 : decode cX9_rests 3 = .ok (.iconst 0, 1) := by decide +kernel
theorem dX9_rests_4 : decode cX9_rests 4 = .ok (.istore_n 3, 1) := by decide +kernel
theorem dX9_rests_5 : decode cX9_rests 5 = .ok (.iload_n 3, 1) := by decide +kernel
theorem dX9_rests_6 : decode cX9_rests 6 = .ok (.bipush 96, 2) := by decide +kernel
theorem dX9_rests_8 : decode cX9_rests 8 = .ok (.if_icmp .ge 74, 3) := by decide +kernel
theorem dX9_rests_11 : decode cX9_rests 11 = .ok (.aload_n 0, 1) := by decide +kernel
theorem dX9_rests_12 : decode cX9_rests 12 = .ok (.getfield 77, 3) := by decide +kernel
theorem dX9_rests_15 : decode cX9_rests 15 = .ok (.bipush 96, 2) := by decide +kernel
theorem dX9_rests_17 : decode cX9_rests 17 = .ok (.iload_n 1, 1) := by decide +kernel
theorem dX9_rests_18 : decode cX9_rests 18 = .ok (.imul, 1) := by decide +kernel
theorem dX9_rests_19 : decode cX9_rests 19 = .ok (.iload_n 3, 1) := by decide +kernel
theorem dX9_rests_20 : decode cX9_rests 20 = .ok (.iadd, 1) := by decide +kernel
theorem dX9_rests_21 : decode cX9_rests 21 = .ok (.baload, 1) := by decide +kernel
theorem dX9_rests_22 : decode cX9_rests 22 = .ok (.ifCond .eq 54, 3) := by decide +kernel
theorem dX9_rests_25 : decode cX9_rests 25 = .ok (.iload_n 2, 1) := by decide +kernel
theorem dX9_rests_26 : decode cX9_rests 26 = .ok (.iconst 1, 1) := by decide +kernel
theorem dX9_rests_27 : decode cX9_rests 27 = .ok (.iadd, 1) := by decide +kernel
theorem dX9_rests_28 : decode cX9_rests 28 = .ok (.istore 4, 2) := by decide +kernel
theorem dX9_rests_30 : decode cX9_rests 30 = .ok (.iload_n 2, 1) := by decide +kernel
theorem dX9_rests_31 : decode cX9_rests 31 = .ok (.ifCond .lt 43, 3) := by decide +kernel
theorem dX9_rests_34 : decode cX9_rests 34 = .ok (.iload_n 3, 1) := by decide +kernel
theorem dX9_rests_35 : decode cX9_rests 35 = .ok (.iload_n 2, 1) := by decide +kernel
theorem dX9_rests_36 : decode cX9_rests 36 = .ok (.isub, 1) := by decide +kernel
theorem dX9_rests_37 : decode cX9_rests 37 = .ok (.iconst 1, 1) := by decide +kernel
theorem dX9_rests_38 : decode cX9_rests 38 = .ok (.isub, 1) := by decide +kernel
theorem dX9_rests_39 : decode cX9_rests 39 = .ok (.aload_n 0, 1) := by decide +kernel
theorem dX9_rests_40 : decode cX9_rests 40 = .ok (.getfield 7, 3) := by decide +kernel
theorem dX9_rests_43 : decode cX9_rests 43 = .ok (.bipush 6, 2) := by decide +kernel
theorem dX9_rests_45 : decode cX9_rests 45 = .ok (.iaload, 1) := by decide +kernel
theorem dX9_rests_46 : decode cX9_rests 46 = .ok (.if_icmp .ge 28, 3) := by decide +kernel
theorem dX9_rests_49 : decode cX9_rests 49 = .ok (.iload 4, 2) := by decide +kernel
theorem dX9_rests_51 : decode cX9_rests 51 = .ok (.iload_n 3, 1) := by decide +kernel
theorem dX9_rests_52 : decode cX9_rests 52 = .ok (.if_icmp .ge 22, 3) := by decide +kernel
theorem dX9_rests_55 : decode cX9_rests 55 = .ok (.aload_n 0, 1) := by decide +kernel
theorem dX9_rests_56 : decode cX9_rests 56 = .ok (.getfield 77, 3) := by decide +kernel
theorem dX9_rests_59 : decode cX9_rests 59 = .ok (.bipush 96, 2) := by decide +kernel
theorem dX9_rests_61 : decode cX9_rests 61 = .ok (.iload_n 1, 1) := by decide +kernel
theorem dX9_rests_62 : decode cX9_rests 62 = .ok (.imul, 1) := by decide +kernel
theorem dX9_rests_63 : decode cX9_rests 63 = .ok (.iload 4, 2) := by decide +kernel
theorem dX9_rests_65 : decode cX9_rests 65 = .ok (.iadd, 1) := by decide +kernel
theorem dX9_rests_66 : decode cX9_rests 66 = .ok (.iconst 1, 1) := by decide +kernel
theorem dX9_rests_67 : decode cX9_rests 67 = .ok (.bastore, 1) := by decide +kernel
theorem dX9_rests_68 : decode cX9_rests 68 = .ok (.iinc 4 1, 3) := by decide +kernel
theorem dX9_rests_71 : decode cX9_rests 71 = .ok (.goto (-41), 3) := by decide +kernel
theorem dX9_rests_74 : decode cX9_rests 74 = .ok (.iload_n 3, 1) := by decide +kernel
theorem dX9_rests_75 : decode cX9_rests 75 = .ok (.istore_n 2, 1) := by decide +kernel
theorem dX9_rests_76 : decode cX9_rests 76 = .ok (.iinc 3 1, 3) := by decide +kernel
theorem dX9_rests_79 : decode cX9_rests 79 = .ok (.goto (-74), 3) := by decide +kernel
theorem dX9_rests_82 : decode cX9_rests 82 = .ok (.return_, 1) := by decide +kernel
theorem dX9_isBlownNow_0 : decode cX9_isBlownNow 0 = .ok (.iconst 0, 1) := by decide +kernel
theorem dX9_isBlownNow_1 : decode cX9_isBlownNow 1 = .ok (.istore_n 2, 1) := by decide +kernel
theorem dX9_isBlownNow_2 : decode cX9_isBlownNow 2 = .ok (.aload_n 0, 1) := by decide +kernel
theorem dX9_isBlownNow_3 : decode cX9_isBlownNow 3 = .ok (.getfield 53, 3) := by decide +kernel
theorem dX9_isBlownNow_6 : decode cX9_isBlownNow 6 = .ok (.iload_n 1, 1) := by decide +kernel
theorem dX9_isBlownNow_7 : decode cX9_isBlownNow 7 = .ok (.iaload, 1) := by decide +kernel
theorem dX9_isBlownNow_8 : decode cX9_isBlownNow 8 = .ok (.aload_n 0, 1) := by decide +kernel
theorem dX9_isBlownNow_9 : decode cX9_isBlownNow 9 = .ok (.invokevirtual 211, 3) := by decide +kernel
theorem dX9_isBlownNow_12 : decode cX9_isBlownNow 12 = .ok (.idiv, 1) := by decide +kernel
theorem dX9_isBlownNow_13 : decode cX9_isBlownNow 13 = .ok (.istore_n 3, 1) := by decide +kernel
theorem dX9_isBlownNow_14 : decode cX9_isBlownNow 14 = .ok (.iload_n 3, 1) := by decide +kernel
theorem dX9_isBlownNow_15 : decode cX9_isBlownNow 15 = .ok (.aload_n 0, 1) := by decide +kernel
theorem dX9_isBlownNow_16 : decode cX9_isBlownNow 16 = .ok (.getfield 56, 3) := by decide +kernel
theorem dX9_isBlownNow_19 : decode cX9_isBlownNow 19 = .ok (.iload_n 1, 1) := by decide +kernel
theorem dX9_isBlownNow_20 : decode cX9_isBlownNow 20 = .ok (.iaload, 1) := by decide +kernel
theorem dX9_isBlownNow_21 : decode cX9_isBlownNow 21 = .ok (.aload_n 0, 1) := by decide +kernel
theorem dX9_isBlownNow_22 : decode cX9_isBlownNow 22 = .ok (.invokevirtual 211, 3) := by decide +kernel
theorem dX9_isBlownNow_25 : decode cX9_isBlownNow 25 = .ok (.idiv, 1) := by decide +kernel
theorem dX9_isBlownNow_26 : decode cX9_isBlownNow 26 = .ok (.if_icmp .gt 73, 3) := by decide +kernel
theorem dX9_isBlownNow_29 : decode cX9_isBlownNow 29 = .ok (.aload_n 0, 1) := by decide +kernel
theorem dX9_isBlownNow_30 : decode cX9_isBlownNow 30 = .ok (.getfield 44, 3) := by decide +kernel
theorem dX9_isBlownNow_33 : decode cX9_isBlownNow 33 = .ok (.iload_n 1, 1) := by decide +kernel
theorem dX9_isBlownNow_34 : decode cX9_isBlownNow 34 = .ok (.iaload, 1) := by decide +kernel
theorem dX9_isBlownNow_35 : decode cX9_isBlownNow 35 = .ok (.aload_n 0, 1) := by decide +kernel
theorem dX9_isBlownNow_36 : decode cX9_isBlownNow 36 = .ok (.getfield 7, 3) := by decide +kernel
theorem dX9_isBlownNow_39 : decode cX9_isBlownNow 39 = .ok (.iconst 2, 1) := by decide +kernel
theorem dX9_isBlownNow_40 : decode cX9_isBlownNow 40 = .ok (.iaload, 1) := by decide +kernel
theorem dX9_isBlownNow_41 : decode cX9_isBlownNow 41 = .ok (.iadd, 1) := by decide +kernel
theorem dX9_isBlownNow_42 : decode cX9_isBlownNow 42 = .ok (.istore 4, 2) := by decide +kernel
theorem dX9_isBlownNow_44 : decode cX9_isBlownNow 44 = .ok (.iload 4, 2) := by decide +kernel
theorem dX9_isBlownNow_46 : decode cX9_isBlownNow 46 = .ok (.aload_n 0, 1) := by decide +kernel
theorem dX9_isBlownNow_47 : decode cX9_isBlownNow 47 = .ok (.getfield 47, 3) := by decide +kernel
theorem dX9_isBlownNow_50 : decode cX9_isBlownNow 50 = .ok (.iload_n 1, 1) := by decide +kernel
theorem dX9_isBlownNow_51 : decode cX9_isBlownNow 51 = .ok (.iaload, 1) := by decide +kernel
theorem dX9_isBlownNow_52 : decode cX9_isBlownNow 52 = .ok (.aload_n 0, 1) := by decide +kernel
theorem dX9_isBlownNow_53 : decode cX9_isBlownNow 53 = .ok (.getfield 7, 3) := by decide +kernel
theorem dX9_isBlownNow_56 : decode cX9_isBlownNow 56 = .ok (.iconst 2, 1) := by decide +kernel
theorem dX9_isBlownNow_57 : decode cX9_isBlownNow 57 = .ok (.iaload, 1) := by decide +kernel
theorem dX9_isBlownNow_58 : decode cX9_isBlownNow 58 = .ok (.iadd, 1) := by decide +kernel
theorem dX9_isBlownNow_59 : decode cX9_isBlownNow 59 = .ok (.if_icmp .gt 34, 3) := by decide +kernel
theorem dX9_isBlownNow_62 : decode cX9_isBlownNow 62 = .ok (.iload_n 2, 1) := by decide +kernel
theorem dX9_isBlownNow_63 : decode cX9_isBlownNow 63 = .ok (.ifCond .ne 18, 3) := by decide +kernel
theorem dX9_isBlownNow_66 : decode cX9_isBlownNow 66 = .ok (.aload_n 0, 1) := by decide +kernel
theorem dX9_isBlownNow_67 : decode cX9_isBlownNow 67 = .ok (.getfield 77, 3) := by decide +kernel
theorem dX9_isBlownNow_70 : decode cX9_isBlownNow 70 = .ok (.bipush 96, 2) := by decide +kernel
theorem dX9_isBlownNow_72 : decode cX9_isBlownNow 72 = .ok (.iload_n 3, 1) := by decide +kernel
theorem dX9_isBlownNow_73 : decode cX9_isBlownNow 73 = .ok (.imul, 1) := by decide +kernel
theorem dX9_isBlownNow_74 : decode cX9_isBlownNow 74 = .ok (.iload 4, 2) := by decide +kernel
theorem dX9_isBlownNow_76 : decode cX9_isBlownNow 76 = .ok (.iadd, 1) := by decide +kernel
theorem dX9_isBlownNow_77 : decode cX9_isBlownNow 77 = .ok (.baload, 1) := by decide +kernel
theorem dX9_isBlownNow_78 : decode cX9_isBlownNow 78 = .ok (.ifCond .eq 7, 3) := by decide +kernel
theorem dX9_isBlownNow_81 : decode cX9_isBlownNow 81 = .ok (.iconst 1, 1) := by decide +kernel
theorem dX9_isBlownNow_82 : decode cX9_isBlownNow 82 = .ok (.goto 4, 3) := by decide +kernel
theorem dX9_isBlownNow_85 : decode cX9_isBlownNow 85 = .ok (.iconst 0, 1) := by decide +kernel
theorem dX9_isBlownNow_86 : decode cX9_isBlownNow 86 = .ok (.istore_n 2, 1) := by decide +kernel
theorem dX9_isBlownNow_87 : decode cX9_isBlownNow 87 = .ok (.iinc 4 1, 3) := by decide +kernel
theorem dX9_isBlownNow_90 : decode cX9_isBlownNow 90 = .ok (.goto (-46), 3) := by decide +kernel
theorem dX9_isBlownNow_93 : decode cX9_isBlownNow 93 = .ok (.iinc 3 1, 3) := by decide +kernel
theorem dX9_isBlownNow_96 : decode cX9_isBlownNow 96 = .ok (.goto (-82), 3) := by decide +kernel
theorem dX9_isBlownNow_99 : decode cX9_isBlownNow 99 = .ok (.iload_n 2, 1) := by decide +kernel
theorem dX9_isBlownNow_100 : decode cX9_isBlownNow 100 = .ok (.ireturn, 1) := by decide +kernel
theorem dX9_judges_0 : decode cX9_judges 0 = .ok (.iconst 0, 1) := by decide +kernel
theorem dX9_judges_1 : decode cX9_judges 1 = .ok (.istore_n 1, 1) := by decide +kernel
theorem dX9_judges_2 : decode cX9_judges 2 = .ok (.iload_n 1, 1) := by decide +kernel
theorem dX9_judges_3 : decode cX9_judges 3 = .ok (.bipush 96, 2) := by decide +kernel
theorem dX9_judges_5 : decode cX9_judges 5 = .ok (.aload_n 0, 1) := by decide +kernel
theorem dX9_judges_6 : decode cX9_judges 6 = .ok (.getfield 7, 3) := by decide +kernel
theorem dX9_judges_9 : decode cX9_judges 9 = .ok (.iconst 1, 1) := by decide +kernel
theorem dX9_judges_10 : decode cX9_judges 10 = .ok (.iaload, 1) := by decide +kernel
theorem dX9_judges_11 : decode cX9_judges 11 = .ok (.imul, 1) := by decide +kernel
theorem dX9_judges_12 : decode cX9_judges 12 = .ok (.if_icmp .ge 16, 3) := by decide +kernel
theorem dX9_judges_15 : decode cX9_judges 15 = .ok (.aload_n 0, 1) := by decide +kernel
theorem dX9_judges_16 : decode cX9_judges 16 = .ok (.getfield 77, 3) := by decide +kernel
theorem dX9_judges_19 : decode cX9_judges 19 = .ok (.iload_n 1, 1) := by decide +kernel
theorem dX9_judges_20 : decode cX9_judges 20 = .ok (.iconst 0, 1) := by decide +kernel
theorem dX9_judges_21 : decode cX9_judges 21 = .ok (.bastore, 1) := by decide +kernel
theorem dX9_judges_22 : decode cX9_judges 22 = .ok (.iinc 1 1, 3) := by decide +kernel
theorem dX9_judges_25 : decode cX9_judges 25 = .ok (.goto (-23), 3) := by decide +kernel
theorem dX9_judges_28 : decode cX9_judges 28 = .ok (.iconst 0, 1) := by decide +kernel
theorem dX9_judges_29 : decode cX9_judges 29 = .ok (.istore_n 1, 1) := by decide +kernel
theorem dX9_judges_30 : decode cX9_judges 30 = .ok (.iload_n 1, 1) := by decide +kernel
theorem dX9_judges_31 : decode cX9_judges 31 = .ok (.aload_n 0, 1) := by decide +kernel
theorem dX9_judges_32 : decode cX9_judges 32 = .ok (.getfield 157, 3) := by decide +kernel
theorem dX9_judges_35 : decode cX9_judges 35 = .ok (.if_icmp .ge 43, 3) := by decide +kernel
theorem dX9_judges_38 : decode cX9_judges 38 = .ok (.aload_n 0, 1) := by decide +kernel
theorem dX9_judges_39 : decode cX9_judges 39 = .ok (.getfield 68, 3) := by decide +kernel
theorem dX9_judges_42 : decode cX9_judges 42 = .ok (.iload_n 1, 1) := by decide +kernel
theorem dX9_judges_43 : decode cX9_judges 43 = .ok (.iaload, 1) := by decide +kernel
theorem dX9_judges_44 : decode cX9_judges 44 = .ok (.istore_n 2, 1) := by decide +kernel
theorem dX9_judges_45 : decode cX9_judges 45 = .ok (.aload_n 0, 1) := by decide +kernel
theorem dX9_judges_46 : decode cX9_judges 46 = .ok (.getfield 74, 3) := by decide +kernel
theorem dX9_judges_49 : decode cX9_judges 49 = .ok (.iload_n 2, 1) := by decide +kernel
theorem dX9_judges_50 : decode cX9_judges 50 = .ok (.aload_n 0, 1) := by decide +kernel
theorem dX9_judges_51 : decode cX9_judges 51 = .ok (.iload_n 2, 1) := by decide +kernel
theorem dX9_judges_52 : decode cX9_judges 52 = .ok (.invokevirtual 214, 3) := by decide +kernel
theorem dX9_judges_55 : decode cX9_judges 55 = .ok (.iastore, 1) := by decide +kernel
theorem dX9_judges_56 : decode cX9_judges 56 = .ok (.aload_n 0, 1) := by decide +kernel
theorem dX9_judges_57 : decode cX9_judges 57 = .ok (.getfield 74, 3) := by decide +kernel
theorem dX9_judges_60 : decode cX9_judges 60 = .ok (.iload_n 2, 1) := by decide +kernel
theorem dX9_judges_61 : decode cX9_judges 61 = .ok (.iaload, 1) := by decide +kernel
theorem dX9_judges_62 : decode cX9_judges 62 = .ok (.bipush (-4), 2) := by decide +kernel
theorem dX9_judges_64 : decode cX9_judges 64 = .ok (.if_icmp .eq 8, 3) := by decide +kernel
theorem dX9_judges_67 : decode cX9_judges 67 = .ok (.aload_n 0, 1) := by decide +kernel
theorem dX9_judges_68 : decode cX9_judges 68 = .ok (.iload_n 2, 1) := by decide +kernel
theorem dX9_judges_69 : decode cX9_judges 69 = .ok (.invokevirtual 217, 3) := by decide +kernel
theorem dX9_judges_72 : decode cX9_judges 72 = .ok (.iinc 1 1, 3) := by decide +kernel
theorem dX9_judges_75 : decode cX9_judges 75 = .ok (.goto (-45), 3) := by decide +kernel
theorem dX9_judges_78 : decode cX9_judges 78 = .ok (.iconst 0, 1) := by decide +kernel
theorem dX9_judges_79 : decode cX9_judges 79 = .ok (.istore_n 1, 1) := by decide +kernel
theorem dX9_judges_80 : decode cX9_judges 80 = .ok (.iload_n 1, 1) := by decide +kernel
theorem dX9_judges_81 : decode cX9_judges 81 = .ok (.aload_n 0, 1) := by decide +kernel
theorem dX9_judges_82 : decode cX9_judges 82 = .ok (.getfield 7, 3) := by decide +kernel
theorem dX9_judges_85 : decode cX9_judges 85 = .ok (.iconst 1, 1) := by decide +kernel
theorem dX9_judges_86 : decode cX9_judges 86 = .ok (.iaload, 1) := by decide +kernel
theorem dX9_judges_87 : decode cX9_judges 87 = .ok (.if_icmp .ge 14, 3) := by decide +kernel
theorem dX9_judges_90 : decode cX9_judges 90 = .ok (.aload_n 0, 1) := by decide +kernel
theorem dX9_judges_91 : decode cX9_judges 91 = .ok (.iload_n 1, 1) := by decide +kernel
theorem dX9_judges_92 : decode cX9_judges 92 = .ok (.invokevirtual 221, 3) := by decide +kernel
theorem dX9_judges_95 : decode cX9_judges 95 = .ok (.iinc 1 1, 3) := by decide +kernel
theorem dX9_judges_98 : decode cX9_judges 98 = .ok (.goto (-18), 3) := by decide +kernel
theorem dX9_judges_101 : decode cX9_judges 101 = .ok (.iconst 0, 1) := by decide +kernel
theorem dX9_judges_102 : decode cX9_judges 102 = .ok (.istore_n 1, 1) := by decide +kernel
theorem dX9_judges_103 : decode cX9_judges 103 = .ok (.iload_n 1, 1) := by decide +kernel
theorem dX9_judges_104 : decode cX9_judges 104 = .ok (.aload_n 0, 1) := by decide +kernel
theorem dX9_judges_105 : decode cX9_judges 105 = .ok (.getfield 157, 3) := by decide +kernel
theorem dX9_judges_108 : decode cX9_judges 108 = .ok (.if_icmp .ge 30, 3) := by decide +kernel
theorem dX9_judges_111 : decode cX9_judges 111 = .ok (.aload_n 0, 1) := by decide +kernel
theorem dX9_judges_112 : decode cX9_judges 112 = .ok (.getfield 81, 3) := by decide +kernel
theorem dX9_judges_115 : decode cX9_judges 115 = .ok (.aload_n 0, 1) := by decide +kernel
theorem dX9_judges_116 : decode cX9_judges 116 = .ok (.getfield 68, 3) := by decide +kernel
theorem dX9_judges_119 : decode cX9_judges 119 = .ok (.iload_n 1, 1) := by decide +kernel
theorem dX9_judges_120 : decode cX9_judges 120 = .ok (.iaload, 1) := by decide +kernel
theorem dX9_judges_121 : decode cX9_judges 121 = .ok (.aload_n 0, 1) := by decide +kernel
theorem dX9_judges_122 : decode cX9_judges 122 = .ok (.aload_n 0, 1) := by decide +kernel
theorem dX9_judges_123 : decode cX9_judges 123 = .ok (.getfield 68, 3) := by decide +kernel
theorem dX9_judges_126 : decode cX9_judges 126 = .ok (.iload_n 1, 1) := by decide +kernel
theorem dX9_judges_127 : decode cX9_judges 127 = .ok (.iaload, 1) := by decide +kernel
theorem dX9_judges_128 : decode cX9_judges 128 = .ok (.invokevirtual 224, 3) := by decide +kernel
theorem dX9_judges_131 : decode cX9_judges 131 = .ok (.bastore, 1) := by decide +kernel
theorem dX9_judges_132 : decode cX9_judges 132 = .ok (.iinc 1 1, 3) := by decide +kernel
theorem dX9_judges_135 : decode cX9_judges 135 = .ok (.goto (-32), 3) := by decide +kernel
theorem dX9_judges_138 : decode cX9_judges 138 = .ok (.return_, 1) := by decide +kernel
theorem dX9_judgesNow_0 : decode cX9_judgesNow 0 = .ok (.aload_n 0, 1) := by decide +kernel
theorem dX9_judgesNow_1 : decode cX9_judgesNow 1 = .ok (.invokevirtual 151, 3) := by decide +kernel
theorem dX9_judgesNow_4 : decode cX9_judgesNow 4 = .ok (.iconst 0, 1) := by decide +kernel
theorem dX9_judgesNow_5 : decode cX9_judgesNow 5 = .ok (.istore_n 1, 1) := by decide +kernel
theorem dX9_judgesNow_6 : decode cX9_judgesNow 6 = .ok (.iload_n 1, 1) := by decide +kernel
theorem dX9_judgesNow_7 : decode cX9_judgesNow 7 = .ok (.aload_n 0, 1) := by decide +kernel
theorem dX9_judgesNow_8 : decode cX9_judgesNow 8 = .ok (.getfield 88, 3) := by decide +kernel
theorem dX9_judgesNow_11 : decode cX9_judgesNow 11 = .ok (.if_icmp .ge 25, 3) := by decide +kernel
theorem dX9_judgesNow_14 : decode cX9_judgesNow 14 = .ok (.aload_n 0, 1) := by decide +kernel
theorem dX9_judgesNow_15 : decode cX9_judgesNow 15 = .ok (.getfield 71, 3) := by decide +kernel
theorem dX9_judgesNow_18 : decode cX9_judgesNow 18 = .ok (.iload_n 1, 1) := by decide +kernel
theorem dX9_judgesNow_19 : decode cX9_judgesNow 19 = .ok (.aload_n 0, 1) := by decide +kernel
theorem dX9_judgesNow_20 : decode cX9_judgesNow 20 = .ok (.getfield 16, 3) := by decide +kernel
theorem dX9_judgesNow_23 : decode cX9_judgesNow 23 = .ok (.bipush 61, 2) := by decide +kernel
theorem dX9_judgesNow_25 : decode cX9_judgesNow 25 = .ok (.iload_n 1, 1) := by decide +kernel
theorem dX9_judgesNow_26 : decode cX9_judgesNow 26 = .ok (.iadd, 1) := by decide +kernel
theorem dX9_judgesNow_27 : decode cX9_judgesNow 27 = .ok (.laload, 1) := by decide +kernel
theorem dX9_judgesNow_28 : decode cX9_judgesNow 28 = .ok (.l2i, 1) := by decide +kernel
theorem dX9_judgesNow_29 : decode cX9_judgesNow 29 = .ok (.iastore, 1) := by decide +kernel
theorem dX9_judgesNow_30 : decode cX9_judgesNow 30 = .ok (.iinc 1 1, 3) := by decide +kernel
theorem dX9_judgesNow_33 : decode cX9_judgesNow 33 = .ok (.goto (-27), 3) := by decide +kernel
theorem dX9_judgesNow_36 : decode cX9_judgesNow 36 = .ok (.aload_n 0, 1) := by decide +kernel
theorem dX9_judgesNow_37 : decode cX9_judgesNow 37 = .ok (.invokevirtual 227, 3) := by decide +kernel
theorem dX9_judgesNow_40 : decode cX9_judgesNow 40 = .ok (.return_, 1) := by decide +kernel
theorem dX9_isLate_0 : decode cX9_isLate 0 = .ok (.aload_n 0, 1) := by decide +kernel
theorem dX9_isLate_1 : decode cX9_isLate 1 = .ok (.getfield 74, 3) := by decide +kernel
theorem dX9_isLate_4 : decode cX9_isLate 4 = .ok (.iload_n 1, 1) := by decide +kernel
theorem dX9_isLate_5 : decode cX9_isLate 5 = .ok (.iaload, 1) := by decide +kernel
theorem dX9_isLate_6 : decode cX9_isLate 6 = .ok (.bipush (-4), 2) := by decide +kernel
theorem dX9_isLate_8 : decode cX9_isLate 8 = .ok (.if_icmp .eq 21, 3) := by decide +kernel
theorem dX9_isLate_11 : decode cX9_isLate 11 = .ok (.aload_n 0, 1) := by decide +kernel
theorem dX9_isLate_12 : decode cX9_isLate 12 = .ok (.iload_n 1, 1) := by decide +kernel
theorem dX9_isLate_13 : decode cX9_isLate 13 = .ok (.invokevirtual 208, 3) := by decide +kernel
theorem dX9_isLate_16 : decode cX9_isLate 16 = .ok (.aload_n 0, 1) := by decide +kernel
theorem dX9_isLate_17 : decode cX9_isLate 17 = .ok (.getfield 47, 3) := by decide +kernel
theorem dX9_isLate_20 : decode cX9_isLate 20 = .ok (.iload_n 1, 1) := by decide +kernel
theorem dX9_isLate_21 : decode cX9_isLate 21 = .ok (.iaload, 1) := by decide +kernel
theorem dX9_isLate_22 : decode cX9_isLate 22 = .ok (.if_icmp .gt 7, 3) := by decide +kernel
theorem dX9_isLate_25 : decode cX9_isLate 25 = .ok (.iconst 1, 1) := by decide +kernel
theorem dX9_isLate_26 : decode cX9_isLate 26 = .ok (.goto 4, 3) := by decide +kernel
theorem dX9_isLate_29 : decode cX9_isLate 29 = .ok (.iconst 0, 1) := by decide +kernel
theorem dX9_isLate_30 : decode cX9_isLate 30 = .ok (.ireturn, 1) := by decide +kernel
theorem dX9_tellBlob_0 : decode cX9_tellBlob 0 = .ok (.iload_n 2, 1) := by decide +kernel
theorem dX9_tellBlob_1 : decode cX9_tellBlob 1 = .ok (.tableswitch 128 0 8 #[51, 58, 65, 72, 79, 86, 100, 107, 114], 51) := by decide +kernel
theorem dX9_tellBlob_52 : decode cX9_tellBlob 52 = .ok (.aload_n 0, 1) := by decide +kernel
theorem dX9_tellBlob_53 : decode cX9_tellBlob 53 = .ok (.getfield 44, 3) := by decide +kernel
theorem dX9_tellBlob_56 : decode cX9_tellBlob 56 = .ok (.iload_n 1, 1) := by decide +kernel
theorem dX9_tellBlob_57 : decode cX9_tellBlob 57 = .ok (.iaload, 1) := by decide +kernel
theorem dX9_tellBlob_58 : decode cX9_tellBlob 58 = .ok (.ireturn, 1) := by decide +kernel
theorem dX9_tellBlob_59 : decode cX9_tellBlob 59 = .ok (.aload_n 0, 1) := by decide +kernel
theorem dX9_tellBlob_60 : decode cX9_tellBlob 60 = .ok (.getfield 47, 3) := by decide +kernel
theorem dX9_tellBlob_63 : decode cX9_tellBlob 63 = .ok (.iload_n 1, 1) := by decide +kernel
theorem dX9_tellBlob_64 : decode cX9_tellBlob 64 = .ok (.iaload, 1) := by decide +kernel
theorem dX9_tellBlob_65 : decode cX9_tellBlob 65 = .ok (.ireturn, 1) := by decide +kernel
theorem dX9_tellBlob_66 : decode cX9_tellBlob 66 = .ok (.aload_n 0, 1) := by decide +kernel
theorem dX9_tellBlob_67 : decode cX9_tellBlob 67 = .ok (.getfield 53, 3) := by decide +kernel
theorem dX9_tellBlob_70 : decode cX9_tellBlob 70 = .ok (.iload_n 1, 1) := by decide +kernel
theorem dX9_tellBlob_71 : decode cX9_tellBlob 71 = .ok (.iaload, 1) := by decide +kernel
theorem dX9_tellBlob_72 : decode cX9_tellBlob 72 = .ok (.ireturn, 1) := by decide +kernel
theorem dX9_tellBlob_73 : decode cX9_tellBlob 73 = .ok (.aload_n 0, 1) := by decide +kernel
theorem dX9_tellBlob_74 : decode cX9_tellBlob 74 = .ok (.getfield 56, 3) := by decide +kernel
theorem dX9_tellBlob_77 : decode cX9_tellBlob 77 = .ok (.iload_n 1, 1) := by decide +kernel
theorem dX9_tellBlob_78 : decode cX9_tellBlob 78 = .ok (.iaload, 1) := by decide +kernel
theorem dX9_tellBlob_79 : decode cX9_tellBlob 79 = .ok (.ireturn, 1) := by decide +kernel
theorem dX9_tellBlob_80 : decode cX9_tellBlob 80 = .ok (.aload_n 0, 1) := by decide +kernel
theorem dX9_tellBlob_81 : decode cX9_tellBlob 81 = .ok (.getfield 59, 3) := by decide +kernel
theorem dX9_tellBlob_84 : decode cX9_tellBlob 84 = .ok (.iload_n 1, 1) := by decide +kernel
theorem dX9_tellBlob_85 : decode cX9_tellBlob 85 = .ok (.iaload, 1) := by decide +kernel
theorem dX9_tellBlob_86 : decode cX9_tellBlob 86 = .ok (.ireturn, 1) := by decide +kernel
theorem dX9_tellBlob_87 : decode cX9_tellBlob 87 = .ok (.aload_n 0, 1) := by decide +kernel
theorem dX9_tellBlob_88 : decode cX9_tellBlob 88 = .ok (.getfield 62, 3) := by decide +kernel
theorem dX9_tellBlob_91 : decode cX9_tellBlob 91 = .ok (.iload_n 1, 1) := by decide +kernel
theorem dX9_tellBlob_92 : decode cX9_tellBlob 92 = .ok (.iaload, 1) := by decide +kernel
theorem dX9_tellBlob_93 : decode cX9_tellBlob 93 = .ok (.aload_n 0, 1) := by decide +kernel
theorem dX9_tellBlob_94 : decode cX9_tellBlob 94 = .ok (.getfield 59, 3) := by decide +kernel
theorem dX9_tellBlob_97 : decode cX9_tellBlob 97 = .ok (.iload_n 1, 1) := by decide +kernel
theorem dX9_tellBlob_98 : decode cX9_tellBlob 98 = .ok (.iaload, 1) := by decide +kernel
theorem dX9_tellBlob_99 : decode cX9_tellBlob 99 = .ok (.idiv, 1) := by decide +kernel
theorem dX9_tellBlob_100 : decode cX9_tellBlob 100 = .ok (.ireturn, 1) := by decide +kernel
theorem dX9_tellBlob_101 : decode cX9_tellBlob 101 = .ok (.aload_n 0, 1) := by decide +kernel
theorem dX9_tellBlob_102 : decode cX9_tellBlob 102 = .ok (.getfield 65, 3) := by decide +kernel
theorem dX9_tellBlob_105 : decode cX9_tellBlob 105 = .ok (.iload_n 1, 1) := by decide +kernel
theorem dX9_tellBlob_106 : decode cX9_tellBlob 106 = .ok (.iaload, 1) := by decide +kernel
theorem dX9_tellBlob_107 : decode cX9_tellBlob 107 = .ok (.ireturn, 1) := by decide +kernel
theorem dX9_tellBlob_108 : decode cX9_tellBlob 108 = .ok (.aload_n 0, 1) := by decide +kernel
theorem dX9_tellBlob_109 : decode cX9_tellBlob 109 = .ok (.getfield 74, 3) := by decide +kernel
theorem dX9_tellBlob_112 : decode cX9_tellBlob 112 = .ok (.iload_n 1, 1) := by decide +kernel
theorem dX9_tellBlob_113 : decode cX9_tellBlob 113 = .ok (.iaload, 1) := by decide +kernel
theorem dX9_tellBlob_114 : decode cX9_tellBlob 114 = .ok (.ireturn, 1) := by decide +kernel
theorem dX9_tellBlob_115 : decode cX9_tellBlob 115 = .ok (.aload_n 0, 1) := by decide +kernel
theorem dX9_tellBlob_116 : decode cX9_tellBlob 116 = .ok (.iload_n 1, 1) := by decide +kernel
theorem dX9_tellBlob_117 : decode cX9_tellBlob 117 = .ok (.invokevirtual 230, 3) := by decide +kernel
theorem dX9_tellBlob_120 : decode cX9_tellBlob 120 = .ok (.ifCond .eq 7, 3) := by decide +kernel
theorem dX9_tellBlob_123 : decode cX9_tellBlob 123 = .ok (.iconst 1, 1) := by decide +kernel
theorem dX9_tellBlob_124 : decode cX9_tellBlob 124 = .ok (.goto 4, 3) := by decide +kernel
theorem dX9_tellBlob_127 : decode cX9_tellBlob 127 = .ok (.iconst 0, 1) := by decide +kernel
theorem dX9_tellBlob_128 : decode cX9_tellBlob 128 = .ok (.ireturn, 1) := by decide +kernel
theorem dX9_tellBlob_129 : decode cX9_tellBlob 129 = .ok (.aload_n 0, 1) := by decide +kernel
theorem dX9_tellBlob_130 : decode cX9_tellBlob 130 = .ok (.getfield 81, 3) := by decide +kernel
theorem dX9_tellBlob_133 : decode cX9_tellBlob 133 = .ok (.iload_n 1, 1) := by decide +kernel
theorem dX9_tellBlob_134 : decode cX9_tellBlob 134 = .ok (.baload, 1) := by decide +kernel
theorem dX9_tellBlob_135 : decode cX9_tellBlob 135 = .ok (.ifCond .eq 7, 3) := by decide +kernel
theorem dX9_tellBlob_138 : decode cX9_tellBlob 138 = .ok (.iconst 1, 1) := by decide +kernel
theorem dX9_tellBlob_139 : decode cX9_tellBlob 139 = .ok (.goto 4, 3) := by decide +kernel
theorem dX9_tellBlob_142 : decode cX9_tellBlob 142 = .ok (.iconst 0, 1) := by decide +kernel
theorem dX9_tellBlob_143 : decode cX9_tellBlob 143 = .ok (.ireturn, 1) := by decide +kernel
theorem dX9_blob_0 : decode cX9_blob 0 = .ok (.aload_n 0, 1) := by decide +kernel
theorem dX9_blob_1 : decode cX9_blob 1 = .ok (.invokevirtual 233, 3) := by decide +kernel
theorem dX9_blob_4 : decode cX9_blob 4 = .ok (.iload_n 1, 1) := by decide +kernel
theorem dX9_blob_5 : decode cX9_blob 5 = .ok (.i2l, 1) := by decide +kernel
theorem dX9_blob_6 : decode cX9_blob 6 = .ok (.lconst 0, 1) := by decide +kernel
theorem dX9_blob_7 : decode cX9_blob 7 = .ok (.aload_n 0, 1) := by decide +kernel
theorem dX9_blob_8 : decode cX9_blob 8 = .ok (.getfield 157, 3) := by decide +kernel
theorem dX9_blob_11 : decode cX9_blob 11 = .ok (.iconst 1, 1) := by decide +kernel
theorem dX9_blob_12 : decode cX9_blob 12 = .ok (.isub, 1) := by decide +kernel
theorem dX9_blob_13 : decode cX9_blob 13 = .ok (.i2l, 1) := by decide +kernel
theorem dX9_blob_14 : decode cX9_blob 14 = .ok (.invokestatic 106, 3) := by decide +kernel
theorem dX9_blob_17 : decode cX9_blob 17 = .ok (.ifCond .eq 29, 3) := by decide +kernel
theorem dX9_blob_20 : decode cX9_blob 20 = .ok (.iload_n 2, 1) := by decide +kernel
theorem dX9_blob_21 : decode cX9_blob 21 = .ok (.i2l, 1) := by decide +kernel
theorem dX9_blob_22 : decode cX9_blob 22 = .ok (.lconst 0, 1) := by decide +kernel
theorem dX9_blob_23 : decode cX9_blob 23 = .ok (.ldc2_w 236, 3) := by decide +kernel
theorem dX9_blob_26 : decode cX9_blob 26 = .ok (.invokestatic 106, 3) := by decide +kernel
theorem dX9_blob_29 : decode cX9_blob 29 = .ok (.ifCond .eq 17, 3) := by decide +kernel
theorem dX9_blob_32 : decode cX9_blob 32 = .ok (.aload_n 0, 1) := by decide +kernel
theorem dX9_blob_33 : decode cX9_blob 33 = .ok (.aload_n 0, 1) := by decide +kernel
theorem dX9_blob_34 : decode cX9_blob 34 = .ok (.getfield 68, 3) := by decide +kernel
theorem dX9_blob_37 : decode cX9_blob 37 = .ok (.iload_n 1, 1) := by decide +kernel
theorem dX9_blob_38 : decode cX9_blob 38 = .ok (.iaload, 1) := by decide +kernel
theorem dX9_blob_39 : decode cX9_blob 39 = .ok (.iload_n 2, 1) := by decide +kernel
theorem dX9_blob_40 : decode cX9_blob 40 = .ok (.invokevirtual 238, 3) := by decide +kernel
theorem dX9_blob_43 : decode cX9_blob 43 = .ok (.goto 4, 3) := by decide +kernel
theorem dX9_blob_46 : decode cX9_blob 46 = .ok (.iconst (-1), 1) := by decide +kernel
theorem dX9_blob_47 : decode cX9_blob 47 = .ok (.ireturn, 1) := by decide +kernel
theorem dX9_open_0 : decode cX9_open 0 = .ok (.iload_n 1, 1) := by decide +kernel
theorem dX9_open_1 : decode cX9_open 1 = .ok (.i2l, 1) := by decide +kernel
theorem dX9_open_2 : decode cX9_open 2 = .ok (.lconst 0, 1) := by decide +kernel
theorem dX9_open_3 : decode cX9_open 3 = .ok (.lconst 1, 1) := by decide +kernel
theorem dX9_open_4 : decode cX9_open 4 = .ok (.invokestatic 106, 3) := by decide +kernel
theorem dX9_open_7 : decode cX9_open 7 = .ok (.ifCond .ne 5, 3) := by decide +kernel
theorem dX9_open_10 : decode cX9_open 10 = .ok (.iconst (-1), 1) := by decide +kernel
theorem dX9_open_11 : decode cX9_open 11 = .ok (.ireturn, 1) := by decide +kernel
theorem dX9_open_12 : decode cX9_open 12 = .ok (.aload_n 0, 1) := by decide +kernel
theorem dX9_open_13 : decode cX9_open 13 = .ok (.invokevirtual 151, 3) := by decide +kernel
theorem dX9_open_16 : decode cX9_open 16 = .ok (.iload_n 1, 1) := by decide +kernel
theorem dX9_open_17 : decode cX9_open 17 = .ok (.ifCond .ne 15, 3) := by decide +kernel
theorem dX9_open_20 : decode cX9_open 20 = .ok (.aload_n 0, 1) := by decide +kernel
theorem dX9_open_21 : decode cX9_open 21 = .ok (.getfield 176, 3) := by decide +kernel
theorem dX9_open_24 : decode cX9_open 24 = .ok (.aload_n 0, 1) := by decide +kernel
theorem dX9_open_25 : decode cX9_open 25 = .ok (.getfield 157, 3) := by decide +kernel
theorem dX9_open_28 : decode cX9_open 28 = .ok (.isub, 1) := by decide +kernel
theorem dX9_open_29 : decode cX9_open 29 = .ok (.goto 7, 3) := by decide +kernel
theorem dX9_open_32 : decode cX9_open 32 = .ok (.aload_n 0, 1) := by decide +kernel
theorem dX9_open_33 : decode cX9_open 33 = .ok (.getfield 186, 3) := by decide +kernel
theorem dX9_open_36 : decode cX9_open 36 = .ok (.ireturn, 1) := by decide +kernel
theorem dX9_isValve_0 : decode cX9_isValve 0 = .ok (.iload_n 1, 1) := by decide +kernel
theorem dX9_isValve_1 : decode cX9_isValve 1 = .ok (.i2l, 1) := by decide +kernel
theorem dX9_isValve_2 : decode cX9_isValve 2 = .ok (.lconst 0, 1) := by decide +kernel
theorem dX9_isValve_3 : decode cX9_isValve 3 = .ok (.aload_n 0, 1) := by decide +kernel
theorem dX9_isValve_4 : decode cX9_isValve 4 = .ok (.getfield 7, 3) := by decide +kernel
theorem dX9_isValve_7 : decode cX9_isValve 7 = .ok (.iconst 1, 1) := by decide +kernel
theorem dX9_isValve_8 : decode cX9_isValve 8 = .ok (.iaload, 1) := by decide +kernel
theorem dX9_isValve_9 : decode cX9_isValve 9 = .ok (.iconst 1, 1) := by decide +kernel
theorem dX9_isValve_10 : decode cX9_isValve 10 = .ok (.isub, 1) := by decide +kernel
theorem dX9_isValve_11 : decode cX9_isValve 11 = .ok (.i2l, 1) := by decide +kernel
theorem dX9_isValve_12 : decode cX9_isValve 12 = .ok (.invokestatic 106, 3) := by decide +kernel
theorem dX9_isValve_15 : decode cX9_isValve 15 = .ok (.ireturn, 1) := by decide +kernel
theorem dX9_opening_0 : decode cX9_opening 0 = .ok (.aload_n 0, 1) := by decide +kernel
theorem dX9_opening_1 : decode cX9_opening 1 = .ok (.iload_n 1, 1) := by decide +kernel
theorem dX9_opening_2 : decode cX9_opening 2 = .ok (.invokevirtual 241, 3) := by decide +kernel
theorem dX9_opening_5 : decode cX9_opening 5 = .ok (.ifCond .eq 18, 3) := by decide +kernel
theorem dX9_opening_8 : decode cX9_opening 8 = .ok (.iload_n 2, 1) := by decide +kernel
theorem dX9_opening_9 : decode cX9_opening 9 = .ok (.iconst (-1), 1) := by decide +kernel
theorem dX9_opening_10 : decode cX9_opening 10 = .ok (.if_icmp .lt 13, 3) := by decide +kernel
theorem dX9_opening_13 : decode cX9_opening 13 = .ok (.iload_n 3, 1) := by decide +kernel
theorem dX9_opening_14 : decode cX9_opening 14 = .ok (.i2l, 1) := by decide +kernel
theorem dX9_opening_15 : decode cX9_opening 15 = .ok (.lconst 0, 1) := by decide +kernel
theorem dX9_opening_16 : decode cX9_opening 16 = .ok (.lconst 1, 1) := by decide +kernel
theorem dX9_opening_17 : decode cX9_opening 17 = .ok (.invokestatic 106, 3) := by decide +kernel
theorem dX9_opening_20 : decode cX9_opening 20 = .ok (.ifCond .ne 5, 3) := by decide +kernel
theorem dX9_opening_23 : decode cX9_opening 23 = .ok (.iconst (-1), 1) := by decide +kernel
theorem dX9_opening_24 : decode cX9_opening 24 = .ok (.ireturn, 1) := by decide +kernel
theorem dX9_opening_25 : decode cX9_opening 25 = .ok (.aload_n 0, 1) := by decide +kernel
theorem dX9_opening_26 : decode cX9_opening 26 = .ok (.invokevirtual 233, 3) := by decide +kernel
theorem dX9_opening_29 : decode cX9_opening 29 = .ok (.iconst 0, 1) := by decide +kernel
theorem dX9_opening_30 : decode cX9_opening 30 = .ok (.istore 4, 2) := by decide +kernel
theorem dX9_opening_32 : decode cX9_opening 32 = .ok (.iconst 0, 1) := by decide +kernel
theorem dX9_opening_33 : decode cX9_opening 33 = .ok (.istore 5, 2) := by decide +kernel
theorem dX9_opening_35 : decode cX9_opening 35 = .ok (.iload 5, 2) := by decide +kernel
theorem dX9_opening_37 : decode cX9_opening 37 = .ok (.bipush 96, 2) := by decide +kernel
theorem dX9_opening_39 : decode cX9_opening 39 = .ok (.if_icmp .ge 140, 3) := by decide +kernel
theorem dX9_opening_42 : decode cX9_opening 42 = .ok (.aload_n 0, 1) := by decide +kernel
theorem dX9_opening_43 : decode cX9_opening 43 = .ok (.getfield 77, 3) := by decide +kernel
theorem dX9_opening_46 : decode cX9_opening 46 = .ok (.bipush 96, 2) := by decide +kernel
theorem dX9_opening_48 : decode cX9_opening 48 = .ok (.iload_n 1, 1) := by decide +kernel
theorem dX9_opening_49 : decode cX9_opening 49 = .ok (.imul, 1) := by decide +kernel
theorem dX9_opening_50 : decode cX9_opening 50 = .ok (.iload 5, 2) := by decide +kernel
theorem dX9_opening_52 : decode cX9_opening 52 = .ok (.iadd, 1) := by decide +kernel
theorem dX9_opening_53 : decode cX9_opening 53 = .ok (.baload, 1) := by decide +kernel
theorem dX9_opening_54 : decode cX9_opening 54 = .ok (.ifCond .eq 29, 3) := by decide +kernel
theorem dX9_opening_57 : decode cX9_opening 57 = .ok (.iload 5, 2) := by decide +kernel
theorem dX9_opening_59 : decode cX9_opening 59 = .ok (.ifCond .eq 20, 3) := by decide +kernel
theorem dX9_opening_62 : decode cX9_opening 62 = .ok (.aload_n 0, 1) := by decide +kernel
theorem dX9_opening_63 : decode cX9_opening 63 = .ok (.getfield 77, 3) := by decide +kernel
theorem dX9_opening_66 : decode cX9_opening 66 = .ok (.bipush 96, 2) := by decide +kernel
theorem dX9_opening_68 : decode cX9_opening 68 = .ok (.iload_n 1, 1) := by decide +kernel
theorem dX9_opening_69 : decode cX9_opening 69 = .ok (.imul, 1) := by decide +kernel
theorem dX9_opening_70 : decode cX9_opening 70 = .ok (.iload 5, 2) := by decide +kernel
theorem dX9_opening_72 : decode cX9_opening 72 = .ok (.iadd, 1) := by decide +kernel
theorem dX9_opening_73 : decode cX9_opening 73 = .ok (.iconst 1, 1) := by decide +kernel
theorem dX9_opening_74 : decode cX9_opening 74 = .ok (.isub, 1) := by decide +kernel
theorem dX9_opening_75 : decode cX9_opening 75 = .ok (.baload, 1) := by decide +kernel
theorem dX9_opening_76 : decode cX9_opening 76 = .ok (.ifCond .ne 7, 3) := by decide +kernel
theorem dX9_opening_79 : decode cX9_opening 79 = .ok (.iconst 1, 1) := by decide +kernel
theorem dX9_opening_80 : decode cX9_opening 80 = .ok (.goto 4, 3) := by decide +kernel
theorem dX9_opening_83 : decode cX9_opening 83 = .ok (.iconst 0, 1) := by decide +kernel
theorem dX9_opening_84 : decode cX9_opening 84 = .ok (.istore 6, 2) := by decide +kernel
theorem dX9_opening_86 : decode cX9_opening 86 = .ok (.aload_n 0, 1) := by decide +kernel
theorem dX9_opening_87 : decode cX9_opening 87 = .ok (.getfield 77, 3) := by decide +kernel
theorem dX9_opening_90 : decode cX9_opening 90 = .ok (.bipush 96, 2) := by decide +kernel
theorem dX9_opening_92 : decode cX9_opening 92 = .ok (.iload_n 1, 1) := by decide +kernel
theorem dX9_opening_93 : decode cX9_opening 93 = .ok (.imul, 1) := by decide +kernel
theorem dX9_opening_94 : decode cX9_opening 94 = .ok (.iload 5, 2) := by decide +kernel
theorem dX9_opening_96 : decode cX9_opening 96 = .ok (.iadd, 1) := by decide +kernel
theorem dX9_opening_97 : decode cX9_opening 97 = .ok (.baload, 1) := by decide +kernel
theorem dX9_opening_98 : decode cX9_opening 98 = .ok (.ifCond .eq 31, 3) := by decide +kernel
theorem dX9_opening_101 : decode cX9_opening 101 = .ok (.iload 5, 2) := by decide +kernel
theorem dX9_opening_103 : decode cX9_opening 103 = .ok (.bipush 95, 2) := by decide +kernel
theorem dX9_opening_105 : decode cX9_opening 105 = .ok (.if_icmp .eq 20, 3) := by decide +kernel
theorem dX9_opening_108 : decode cX9_opening 108 = .ok (.aload_n 0, 1) := by decide +kernel
theorem dX9_opening_109 : decode cX9_opening 109 = .ok (.getfield 77, 3) := by decide +kernel
theorem dX9_opening_112 : decode cX9_opening 112 = .ok (.bipush 96, 2) := by decide +kernel
theorem dX9_opening_114 : decode cX9_opening 114 = .ok (.iload_n 1, 1) := by decide +kernel
theorem dX9_opening_115 : decode cX9_opening 115 = .ok (.imul, 1) := by decide +kernel
theorem dX9_opening_116 : decode cX9_opening 116 = .ok (.iload 5, 2) := by decide +kernel
theorem dX9_opening_118 : decode cX9_opening 118 = .ok (.iadd, 1) := by decide +kernel
theorem dX9_opening_119 : decode cX9_opening 119 = .ok (.iconst 1, 1) := by decide +kernel
theorem dX9_opening_120 : decode cX9_opening 120 = .ok (.iadd, 1) := by decide +kernel
theorem dX9_opening_121 : decode cX9_opening 121 = .ok (.baload, 1) := by decide +kernel
theorem dX9_opening_122 : decode cX9_opening 122 = .ok (.ifCond .ne 7, 3) := by decide +kernel
theorem dX9_opening_125 : decode cX9_opening 125 = .ok (.iconst 1, 1) := by decide +kernel
theorem dX9_opening_126 : decode cX9_opening 126 = .ok (.goto 4, 3) := by decide +kernel
theorem dX9_opening_129 : decode cX9_opening 129 = .ok (.iconst 0, 1) := by decide +kernel
theorem dX9_opening_130 : decode cX9_opening 130 = .ok (.istore 7, 2) := by decide +kernel
theorem dX9_opening_132 : decode cX9_opening 132 = .ok (.iload 4, 2) := by decide +kernel
theorem dX9_opening_134 : decode cX9_opening 134 = .ok (.iload_n 2, 1) := by decide +kernel
theorem dX9_opening_135 : decode cX9_opening 135 = .ok (.if_icmp .ne 23, 3) := by decide +kernel
theorem dX9_opening_138 : decode cX9_opening 138 = .ok (.iload_n 3, 1) := by decide +kernel
theorem dX9_opening_139 : decode cX9_opening 139 = .ok (.ifCond .ne 11, 3) := by decide +kernel
theorem dX9_opening_142 : decode cX9_opening 142 = .ok (.iload 6, 2) := by decide +kernel
theorem dX9_opening_144 : decode cX9_opening 144 = .ok (.ifCond .eq 14, 3) := by decide +kernel
theorem dX9_opening_147 : decode cX9_opening 147 = .ok (.goto 8, 3) := by decide +kernel
theorem dX9_opening_150 : decode cX9_opening 150 = .ok (.iload 7, 2) := by decide +kernel
theorem dX9_opening_152 : decode cX9_opening 152 = .ok (.ifCond .eq 6, 3) := by decide +kernel
theorem dX9_opening_155 : decode cX9_opening 155 = .ok (.iload 5, 2) := by decide +kernel
theorem dX9_opening_157 : decode cX9_opening 157 = .ok (.ireturn, 1) := by decide +kernel
theorem dX9_opening_158 : decode cX9_opening 158 = .ok (.iload 4, 2) := by decide +kernel
theorem dX9_opening_160 : decode cX9_opening 160 = .ok (.iload 7, 2) := by decide +kernel
theorem dX9_opening_162 : decode cX9_opening 162 = .ok (.ifCond .eq 7, 3) := by decide +kernel
theorem dX9_opening_165 : decode cX9_opening 165 = .ok (.iconst 1, 1) := by decide +kernel
theorem dX9_opening_166 : decode cX9_opening 166 = .ok (.goto 4, 3) := by decide +kernel
theorem dX9_opening_169 : decode cX9_opening 169 = .ok (.iconst 0, 1) := by decide +kernel
theorem dX9_opening_170 : decode cX9_opening 170 = .ok (.iadd, 1) := by decide +kernel
theorem dX9_opening_171 : decode cX9_opening 171 = .ok (.istore 4, 2) := by decide +kernel
theorem dX9_opening_173 : decode cX9_opening 173 = .ok (.iinc 5 1, 3) := by decide +kernel
theorem dX9_opening_176 : decode cX9_opening 176 = .ok (.goto (-141), 3) := by decide +kernel
theorem dX9_opening_179 : decode cX9_opening 179 = .ok (.iload_n 2, 1) := by decide +kernel
theorem dX9_opening_180 : decode cX9_opening 180 = .ok (.iconst (-1), 1) := by decide +kernel
theorem dX9_opening_181 : decode cX9_opening 181 = .ok (.if_icmp .ne 8, 3) := by decide +kernel
theorem dX9_opening_184 : decode cX9_opening 184 = .ok (.iload 4, 2) := by decide +kernel
theorem dX9_opening_186 : decode cX9_opening 186 = .ok (.goto 5, 3) := by decide +kernel
theorem dX9_opening_189 : decode cX9_opening 189 = .ok (.bipush (-4), 2) := by decide +kernel
theorem dX9_opening_191 : decode cX9_opening 191 = .ok (.ireturn, 1) := by decide +kernel
theorem dX9_air_0 : decode cX9_air 0 = .ok (.aload_n 0, 1) := by decide +kernel
theorem dX9_air_1 : decode cX9_air 1 = .ok (.iload_n 1, 1) := by decide +kernel
theorem dX9_air_2 : decode cX9_air 2 = .ok (.invokevirtual 241, 3) := by decide +kernel
theorem dX9_air_5 : decode cX9_air 5 = .ok (.ifCond .ne 5, 3) := by decide +kernel
theorem dX9_air_8 : decode cX9_air 8 = .ok (.iconst (-1), 1) := by decide +kernel
theorem dX9_air_9 : decode cX9_air 9 = .ok (.ireturn, 1) := by decide +kernel
theorem dX9_air_10 : decode cX9_air 10 = .ok (.aload_n 0, 1) := by decide +kernel
theorem dX9_air_11 : decode cX9_air 11 = .ok (.invokevirtual 233, 3) := by decide +kernel
theorem dX9_air_14 : decode cX9_air 14 = .ok (.iconst 0, 1) := by decide +kernel
theorem dX9_air_15 : decode cX9_air 15 = .ok (.istore_n 2, 1) := by decide +kernel
theorem dX9_air_16 : decode cX9_air 16 = .ok (.iconst 0, 1) := by decide +kernel
theorem dX9_air_17 : decode cX9_air 17 = .ok (.istore_n 3, 1) := by decide +kernel
theorem dX9_air_18 : decode cX9_air 18 = .ok (.iload_n 3, 1) := by decide +kernel
theorem dX9_air_19 : decode cX9_air 19 = .ok (.bipush 96, 2) := by decide +kernel
theorem dX9_air_21 : decode cX9_air 21 = .ok (.if_icmp .ge 31, 3) := by decide +kernel
theorem dX9_air_24 : decode cX9_air 24 = .ok (.iload_n 2, 1) := by decide +kernel
theorem dX9_air_25 : decode cX9_air 25 = .ok (.aload_n 0, 1) := by decide +kernel
theorem dX9_air_26 : decode cX9_air 26 = .ok (.getfield 77, 3) := by decide +kernel
theorem dX9_air_29 : decode cX9_air 29 = .ok (.bipush 96, 2) := by decide +kernel
theorem dX9_air_31 : decode cX9_air 31 = .ok (.iload_n 1, 1) := by decide +kernel
theorem dX9_air_32 : decode cX9_air 32 = .ok (.imul, 1) := by decide +kernel
theorem dX9_air_33 : decode cX9_air 33 = .ok (.iload_n 3, 1) := by decide +kernel
theorem dX9_air_34 : decode cX9_air 34 = .ok (.iadd, 1) := by decide +kernel
theorem dX9_air_35 : decode cX9_air 35 = .ok (.baload, 1) := by decide +kernel
theorem dX9_air_36 : decode cX9_air 36 = .ok (.ifCond .eq 7, 3) := by decide +kernel
theorem dX9_air_39 : decode cX9_air 39 = .ok (.iconst 1, 1) := by decide +kernel
theorem dX9_air_40 : decode cX9_air 40 = .ok (.goto 4, 3) := by decide +kernel
theorem dX9_air_43 : decode cX9_air 43 = .ok (.iconst 0, 1) := by decide +kernel
theorem dX9_air_44 : decode cX9_air 44 = .ok (.iadd, 1) := by decide +kernel
theorem dX9_air_45 : decode cX9_air 45 = .ok (.istore_n 2, 1) := by decide +kernel
theorem dX9_air_46 : decode cX9_air 46 = .ok (.iinc 3 1, 3) := by decide +kernel
theorem dX9_air_49 : decode cX9_air 49 = .ok (.goto (-31), 3) := by decide +kernel
theorem dX9_air_52 : decode cX9_air 52 = .ok (.iload_n 2, 1) := by decide +kernel
theorem dX9_air_53 : decode cX9_air 53 = .ok (.ireturn, 1) := by decide +kernel
theorem dX9_gained_0 : decode cX9_gained 0 = .ok (.iconst 0, 1) := by decide +kernel
theorem dX9_gained_1 : decode cX9_gained 1 = .ok (.istore_n 1, 1) := by decide +kernel
theorem dX9_gained_2 : decode cX9_gained 2 = .ok (.iconst 0, 1) := by decide +kernel
theorem dX9_gained_3 : decode cX9_gained 3 = .ok (.istore_n 2, 1) := by decide +kernel
theorem dX9_gained_4 : decode cX9_gained 4 = .ok (.iload_n 2, 1) := by decide +kernel
theorem dX9_gained_5 : decode cX9_gained 5 = .ok (.aload_n 0, 1) := by decide +kernel
theorem dX9_gained_6 : decode cX9_gained 6 = .ok (.getfield 157, 3) := by decide +kernel
theorem dX9_gained_9 : decode cX9_gained 9 = .ok (.if_icmp .ge 63, 3) := by decide +kernel
theorem dX9_gained_12 : decode cX9_gained 12 = .ok (.aload_n 0, 1) := by decide +kernel
theorem dX9_gained_13 : decode cX9_gained 13 = .ok (.getfield 68, 3) := by decide +kernel
theorem dX9_gained_16 : decode cX9_gained 16 = .ok (.iload_n 2, 1) := by decide +kernel
theorem dX9_gained_17 : decode cX9_gained 17 = .ok (.iaload, 1) := by decide +kernel
theorem dX9_gained_18 : decode cX9_gained 18 = .ok (.istore_n 3, 1) := by decide +kernel
theorem dX9_gained_19 : decode cX9_gained 19 = .ok (.aload_n 0, 1) := by decide +kernel
theorem dX9_gained_20 : decode cX9_gained 20 = .ok (.getfield 65, 3) := by decide +kernel
theorem dX9_gained_23 : decode cX9_gained 23 = .ok (.iload_n 3, 1) := by decide +kernel
theorem dX9_gained_24 : decode cX9_gained 24 = .ok (.iaload, 1) := by decide +kernel
theorem dX9_gained_25 : decode cX9_gained 25 = .ok (.ifCond .le 15, 3) := by decide +kernel
theorem dX9_gained_28 : decode cX9_gained 28 = .ok (.bipush (-3), 2) := by decide +kernel
theorem dX9_gained_30 : decode cX9_gained 30 = .ok (.aload_n 0, 1) := by decide +kernel
theorem dX9_gained_31 : decode cX9_gained 31 = .ok (.getfield 65, 3) := by decide +kernel
theorem dX9_gained_34 : decode cX9_gained 34 = .ok (.iload_n 3, 1) := by decide +kernel
theorem dX9_gained_35 : decode cX9_gained 35 = .ok (.iaload, 1) := by decide +kernel
theorem dX9_gained_36 : decode cX9_gained 36 = .ok (.imul, 1) := by decide +kernel
theorem dX9_gained_37 : decode cX9_gained 37 = .ok (.goto 9, 3) := by decide +kernel
theorem dX9_gained_40 : decode cX9_gained 40 = .ok (.aload_n 0, 1) := by decide +kernel
theorem dX9_gained_41 : decode cX9_gained 41 = .ok (.getfield 59, 3) := by decide +kernel
theorem dX9_gained_44 : decode cX9_gained 44 = .ok (.iload_n 3, 1) := by decide +kernel
theorem dX9_gained_45 : decode cX9_gained 45 = .ok (.iaload, 1) := by decide +kernel
theorem dX9_gained_46 : decode cX9_gained 46 = .ok (.istore 4, 2) := by decide +kernel
theorem dX9_gained_48 : decode cX9_gained 48 = .ok (.iload_n 1, 1) := by decide +kernel
theorem dX9_gained_49 : decode cX9_gained 49 = .ok (.aload_n 0, 1) := by decide +kernel
theorem dX9_gained_50 : decode cX9_gained 50 = .ok (.getfield 81, 3) := by decide +kernel
theorem dX9_gained_53 : decode cX9_gained 53 = .ok (.iload_n 3, 1) := by decide +kernel
theorem dX9_gained_54 : decode cX9_gained 54 = .ok (.baload, 1) := by decide +kernel
theorem dX9_gained_55 : decode cX9_gained 55 = .ok (.ifCond .eq 7, 3) := by decide +kernel
theorem dX9_gained_58 : decode cX9_gained 58 = .ok (.iconst 0, 1) := by decide +kernel
theorem dX9_gained_59 : decode cX9_gained 59 = .ok (.goto 5, 3) := by decide +kernel
theorem dX9_gained_62 : decode cX9_gained 62 = .ok (.iload 4, 2) := by decide +kernel
theorem dX9_gained_64 : decode cX9_gained 64 = .ok (.iadd, 1) := by decide +kernel
theorem dX9_gained_65 : decode cX9_gained 65 = .ok (.istore_n 1, 1) := by decide +kernel
theorem dX9_gained_66 : decode cX9_gained 66 = .ok (.iinc 2 1, 3) := by decide +kernel
theorem dX9_gained_69 : decode cX9_gained 69 = .ok (.goto (-65), 3) := by decide +kernel
theorem dX9_gained_72 : decode cX9_gained 72 = .ok (.iload_n 1, 1) := by decide +kernel
theorem dX9_gained_73 : decode cX9_gained 73 = .ok (.ireturn, 1) := by decide +kernel
theorem dX9_gain_0 : decode cX9_gain 0 = .ok (.aload_n 0, 1) := by decide +kernel
theorem dX9_gain_1 : decode cX9_gain 1 = .ok (.invokevirtual 233, 3) := by decide +kernel
theorem dX9_gain_4 : decode cX9_gain 4 = .ok (.aload_n 0, 1) := by decide +kernel
theorem dX9_gain_5 : decode cX9_gain 5 = .ok (.invokevirtual 244, 3) := by decide +kernel
theorem dX9_gain_8 : decode cX9_gain 8 = .ok (.sipush 10000, 3) := by decide +kernel
theorem dX9_gain_11 : decode cX9_gain 11 = .ok (.iadd, 1) := by decide +kernel
theorem dX9_gain_12 : decode cX9_gain 12 = .ok (.ireturn, 1) := by decide +kernel
theorem dX9_best_0 : decode cX9_best 0 = .ok (.aload_n 0, 1) := by decide +kernel
theorem dX9_best_1 : decode cX9_best 1 = .ok (.iload_n 1, 1) := by decide +kernel
theorem dX9_best_2 : decode cX9_best 2 = .ok (.invokevirtual 163, 3) := by decide +kernel
theorem dX9_best_5 : decode cX9_best 5 = .ok (.ifCond .eq 13, 3) := by decide +kernel
theorem dX9_best_8 : decode cX9_best 8 = .ok (.iload_n 2, 1) := by decide +kernel
theorem dX9_best_9 : decode cX9_best 9 = .ok (.i2l, 1) := by decide +kernel
theorem dX9_best_10 : decode cX9_best 10 = .ok (.lconst 0, 1) := by decide +kernel
theorem dX9_best_11 : decode cX9_best 11 = .ok (.lconst 1, 1) := by decide +kernel
theorem dX9_best_12 : decode cX9_best 12 = .ok (.invokestatic 106, 3) := by decide +kernel
theorem dX9_best_15 : decode cX9_best 15 = .ok (.ifCond .ne 5, 3) := by decide +kernel
theorem dX9_best_18 : decode cX9_best 18 = .ok (.iconst (-1), 1) := by decide +kernel
theorem dX9_best_19 : decode cX9_best 19 = .ok (.ireturn, 1) := by decide +kernel
theorem dX9_best_20 : decode cX9_best 20 = .ok (.aload_n 0, 1) := by decide +kernel
theorem dX9_best_21 : decode cX9_best 21 = .ok (.invokevirtual 233, 3) := by decide +kernel
theorem dX9_best_24 : decode cX9_best 24 = .ok (.iconst 0, 1) := by decide +kernel
theorem dX9_best_25 : decode cX9_best 25 = .ok (.istore_n 3, 1) := by decide +kernel
theorem dX9_best_26 : decode cX9_best 26 = .ok (.iconst 0, 1) := by decide +kernel
theorem dX9_best_27 : decode cX9_best 27 = .ok (.istore 4, 2) := by decide +kernel
theorem dX9_best_29 : decode cX9_best 29 = .ok (.iconst 1, 1) := by decide +kernel
theorem dX9_best_30 : decode cX9_best 30 = .ok (.istore 5, 2) := by decide +kernel
theorem dX9_best_32 : decode cX9_best 32 = .ok (.iload 5, 2) := by decide +kernel
theorem dX9_best_34 : decode cX9_best 34 = .ok (.bipush 100, 2) := by decide +kernel
theorem dX9_best_36 : decode cX9_best 36 = .ok (.if_icmp .ge 71, 3) := by decide +kernel
theorem dX9_best_39 : decode cX9_best 39 = .ok (.aload_n 0, 1) := by decide +kernel
theorem dX9_best_40 : decode cX9_best 40 = .ok (.getfield 71, 3) := by decide +kernel
theorem dX9_best_43 : decode cX9_best 43 = .ok (.iload_n 1, 1) := by decide +kernel
theorem dX9_best_44 : decode cX9_best 44 = .ok (.iload 5, 2) := by decide +kernel
theorem dX9_best_46 : decode cX9_best 46 = .ok (.iastore, 1) := by decide +kernel
theorem dX9_best_47 : decode cX9_best 47 = .ok (.aload_n 0, 1) := by decide +kernel
theorem dX9_best_48 : decode cX9_best 48 = .ok (.invokevirtual 227, 3) := by decide +kernel
theorem dX9_best_51 : decode cX9_best 51 = .ok (.iload 5, 2) := by decide +kernel
theorem dX9_best_53 : decode cX9_best 53 = .ok (.iconst 1, 1) := by decide +kernel
theorem dX9_best_54 : decode cX9_best 54 = .ok (.if_icmp .eq 12, 3) := by decide +kernel
theorem dX9_best_57 : decode cX9_best 57 = .ok (.aload_n 0, 1) := by decide +kernel
theorem dX9_best_58 : decode cX9_best 58 = .ok (.invokevirtual 244, 3) := by decide +kernel
theorem dX9_best_61 : decode cX9_best 61 = .ok (.iload 4, 2) := by decide +kernel
theorem dX9_best_63 : decode cX9_best 63 = .ok (.if_icmp .le 7, 3) := by decide +kernel
theorem dX9_best_66 : decode cX9_best 66 = .ok (.iconst 1, 1) := by decide +kernel
theorem dX9_best_67 : decode cX9_best 67 = .ok (.goto 4, 3) := by decide +kernel
theorem dX9_best_70 : decode cX9_best 70 = .ok (.iconst 0, 1) := by decide +kernel
theorem dX9_best_71 : decode cX9_best 71 = .ok (.istore 6, 2) := by decide +kernel
theorem dX9_best_73 : decode cX9_best 73 = .ok (.iload 6, 2) := by decide +kernel
theorem dX9_best_75 : decode cX9_best 75 = .ok (.ifCond .eq 8, 3) := by decide +kernel
theorem dX9_best_78 : decode cX9_best 78 = .ok (.iload 5, 2) := by decide +kernel
theorem dX9_best_80 : decode cX9_best 80 = .ok (.goto 4, 3) := by decide +kernel
theorem dX9_best_83 : decode cX9_best 83 = .ok (.iload_n 3, 1) := by decide +kernel
theorem dX9_best_84 : decode cX9_best 84 = .ok (.istore_n 3, 1) := by decide +kernel
theorem dX9_best_85 : decode cX9_best 85 = .ok (.iload 6, 2) := by decide +kernel
theorem dX9_best_87 : decode cX9_best 87 = .ok (.ifCond .eq 10, 3) := by decide +kernel
theorem dX9_best_90 : decode cX9_best 90 = .ok (.aload_n 0, 1) := by decide +kernel
theorem dX9_best_91 : decode cX9_best 91 = .ok (.invokevirtual 244, 3) := by decide +kernel
theorem dX9_best_94 : decode cX9_best 94 = .ok (.goto 5, 3) := by decide +kernel
theorem dX9_best_97 : decode cX9_best 97 = .ok (.iload 4, 2) := by decide +kernel
theorem dX9_best_99 : decode cX9_best 99 = .ok (.istore 4, 2) := by decide +kernel
theorem dX9_best_101 : decode cX9_best 101 = .ok (.iinc 5 1, 3) := by decide +kernel
theorem dX9_best_104 : decode cX9_best 104 = .ok (.goto (-72), 3) := by decide +kernel
theorem dX9_best_107 : decode cX9_best 107 = .ok (.iload_n 2, 1) := by decide +kernel
theorem dX9_best_108 : decode cX9_best 108 = .ok (.ifCond .ne 7, 3) := by decide +kernel
theorem dX9_best_111 : decode cX9_best 111 = .ok (.iload_n 3, 1) := by decide +kernel
theorem dX9_best_112 : decode cX9_best 112 = .ok (.goto 9, 3) := by decide +kernel
theorem dX9_best_115 : decode cX9_best 115 = .ok (.iload 4, 2) := by decide +kernel
theorem dX9_best_117 : decode cX9_best 117 = .ok (.sipush 10000, 3) := by decide +kernel
theorem dX9_best_120 : decode cX9_best 120 = .ok (.iadd, 1) := by decide +kernel
theorem dX9_best_121 : decode cX9_best 121 = .ok (.ireturn, 1) := by decide +kernel
theorem dX9_howMany_0 : decode cX9_howMany 0 = .ok (.aload_n 0, 1) := by decide +kernel
theorem dX9_howMany_1 : decode cX9_howMany 1 = .ok (.invokevirtual 233, 3) := by decide +kernel
theorem dX9_howMany_4 : decode cX9_howMany 4 = .ok (.iconst 0, 1) := by decide +kernel
theorem dX9_howMany_5 : decode cX9_howMany 5 = .ok (.istore_n 2, 1) := by decide +kernel
theorem dX9_howMany_6 : decode cX9_howMany 6 = .ok (.iconst 0, 1) := by decide +kernel
theorem dX9_howMany_7 : decode cX9_howMany 7 = .ok (.istore_n 3, 1) := by decide +kernel
theorem dX9_howMany_8 : decode cX9_howMany 8 = .ok (.iload_n 3, 1) := by decide +kernel
theorem dX9_howMany_9 : decode cX9_howMany 9 = .ok (.aload_n 0, 1) := by decide +kernel
theorem dX9_howMany_10 : decode cX9_howMany 10 = .ok (.getfield 157, 3) := by decide +kernel
theorem dX9_howMany_13 : decode cX9_howMany 13 = .ok (.if_icmp .ge 141, 3) := by decide +kernel
theorem dX9_howMany_16 : decode cX9_howMany 16 = .ok (.aload_n 0, 1) := by decide +kernel
theorem dX9_howMany_17 : decode cX9_howMany 17 = .ok (.getfield 68, 3) := by decide +kernel
theorem dX9_howMany_20 : decode cX9_howMany 20 = .ok (.iload_n 3, 1) := by decide +kernel
theorem dX9_howMany_21 : decode cX9_howMany 21 = .ok (.iaload, 1) := by decide +kernel
theorem dX9_howMany_22 : decode cX9_howMany 22 = .ok (.istore 4, 2) := by decide +kernel
theorem dX9_howMany_24 : decode cX9_howMany 24 = .ok (.aload_n 0, 1) := by decide +kernel
theorem dX9_howMany_25 : decode cX9_howMany 25 = .ok (.getfield 74, 3) := by decide +kernel
theorem dX9_howMany_28 : decode cX9_howMany 28 = .ok (.iload 4, 2) := by decide +kernel
theorem dX9_howMany_30 : decode cX9_howMany 30 = .ok (.iaload, 1) := by decide +kernel
theorem dX9_howMany_31 : decode cX9_howMany 31 = .ok (.bipush (-4), 2) := by decide +kernel
theorem dX9_howMany_33 : decode cX9_howMany 33 = .ok (.if_icmp .eq 7, 3) := by decide +kernel
theorem dX9_howMany_36 : decode cX9_howMany 36 = .ok (.iconst 1, 1) := by decide +kernel
theorem dX9_howMany_37 : decode cX9_howMany 37 = .ok (.goto 4, 3) := by decide +kernel
theorem dX9_howMany_40 : decode cX9_howMany 40 = .ok (.iconst 0, 1) := by decide +kernel
theorem dX9_howMany_41 : decode cX9_howMany 41 = .ok (.istore 5, 2) := by decide +kernel
theorem dX9_howMany_43 : decode cX9_howMany 43 = .ok (.iload_n 1, 1) := by decide +kernel
theorem dX9_howMany_44 : decode cX9_howMany 44 = .ok (.iconst 5, 1) := by decide +kernel
theorem dX9_howMany_45 : decode cX9_howMany 45 = .ok (.if_icmp .ne 8, 3) := by decide +kernel
theorem dX9_howMany_48 : decode cX9_howMany 48 = .ok (.iload 5, 2) := by decide +kernel
theorem dX9_howMany_50 : decode cX9_howMany 50 = .ok (.goto 83, 3) := by decide +kernel
theorem dX9_howMany_53 : decode cX9_howMany 53 = .ok (.iload_n 1, 1) := by decide +kernel
theorem dX9_howMany_54 : decode cX9_howMany 54 = .ok (.bipush 6, 2) := by decide +kernel
theorem dX9_howMany_56 : decode cX9_howMany 56 = .ok (.if_icmp .ne 12, 3) := by decide +kernel
theorem dX9_howMany_59 : decode cX9_howMany 59 = .ok (.aload_n 0, 1) := by decide +kernel
theorem dX9_howMany_60 : decode cX9_howMany 60 = .ok (.iload 4, 2) := by decide +kernel
theorem dX9_howMany_62 : decode cX9_howMany 62 = .ok (.invokevirtual 230, 3) := by decide +kernel
theorem dX9_howMany_65 : decode cX9_howMany 65 = .ok (.goto 68, 3) := by decide +kernel
theorem dX9_howMany_68 : decode cX9_howMany 68 = .ok (.iload_n 1, 1) := by decide +kernel
theorem dX9_howMany_69 : decode cX9_howMany 69 = .ok (.bipush 7, 2) := by decide +kernel
theorem dX9_howMany_71 : decode cX9_howMany 71 = .ok (.if_icmp .ne 13, 3) := by decide +kernel
theorem dX9_howMany_74 : decode cX9_howMany 74 = .ok (.aload_n 0, 1) := by decide +kernel
theorem dX9_howMany_75 : decode cX9_howMany 75 = .ok (.getfield 81, 3) := by decide +kernel
theorem dX9_howMany_78 : decode cX9_howMany 78 = .ok (.iload 4, 2) := by decide +kernel
theorem dX9_howMany_80 : decode cX9_howMany 80 = .ok (.baload, 1) := by decide +kernel
theorem dX9_howMany_81 : decode cX9_howMany 81 = .ok (.goto 52, 3) := by decide +kernel
theorem dX9_howMany_84 : decode cX9_howMany 84 = .ok (.iload_n 1, 1) := by decide +kernel
theorem dX9_howMany_85 : decode cX9_howMany 85 = .ok (.bipush 8, 2) := by decide +kernel
theorem dX9_howMany_87 : decode cX9_howMany 87 = .ok (.if_icmp .ne 26, 3) := by decide +kernel
theorem dX9_howMany_90 : decode cX9_howMany 90 = .ok (.iload 5, 2) := by decide +kernel
theorem dX9_howMany_92 : decode cX9_howMany 92 = .ok (.ifCond .eq 17, 3) := by decide +kernel
theorem dX9_howMany_95 : decode cX9_howMany 95 = .ok (.aload_n 0, 1) := by decide +kernel
theorem dX9_howMany_96 : decode cX9_howMany 96 = .ok (.getfield 81, 3) := by decide +kernel
theorem dX9_howMany_99 : decode cX9_howMany 99 = .ok (.iload 4, 2) := by decide +kernel
theorem dX9_howMany_101 : decode cX9_howMany 101 = .ok (.baload, 1) := by decide +kernel
theorem dX9_howMany_102 : decode cX9_howMany 102 = .ok (.ifCond .ne 7, 3) := by decide +kernel
theorem dX9_howMany_105 : decode cX9_howMany 105 = .ok (.iconst 1, 1) := by decide +kernel
theorem dX9_howMany_106 : decode cX9_howMany 106 = .ok (.goto 27, 3) := by decide +kernel
theorem dX9_howMany_109 : decode cX9_howMany 109 = .ok (.iconst 0, 1) := by decide +kernel
theorem dX9_howMany_110 : decode cX9_howMany 110 = .ok (.goto 23, 3) := by decide +kernel
theorem dX9_howMany_113 : decode cX9_howMany 113 = .ok (.iload 5, 2) := by decide +kernel
theorem dX9_howMany_115 : decode cX9_howMany 115 = .ok (.ifCond .ne 17, 3) := by decide +kernel
theorem dX9_howMany_118 : decode cX9_howMany 118 = .ok (.aload_n 0, 1) := by decide +kernel
theorem dX9_howMany_119 : decode cX9_howMany 119 = .ok (.getfield 81, 3) := by decide +kernel
theorem dX9_howMany_122 : decode cX9_howMany 122 = .ok (.iload 4, 2) := by decide +kernel
theorem dX9_howMany_124 : decode cX9_howMany 124 = .ok (.baload, 1) := by decide +kernel
theorem dX9_howMany_125 : decode cX9_howMany 125 = .ok (.ifCond .eq 7, 3) := by decide +kernel
theorem dX9_howMany_128 : decode cX9_howMany 128 = .ok (.iconst 1, 1) := by decide +kernel
theorem dX9_howMany_129 : decode cX9_howMany 129 = .ok (.goto 4, 3) := by decide +kernel
theorem dX9_howMany_132 : decode cX9_howMany 132 = .ok (.iconst 0, 1) := by decide +kernel
theorem dX9_howMany_133 : decode cX9_howMany 133 = .ok (.istore 6, 2) := by decide +kernel
theorem dX9_howMany_135 : decode cX9_howMany 135 = .ok (.iload_n 2, 1) := by decide +kernel
theorem dX9_howMany_136 : decode cX9_howMany 136 = .ok (.iload 6, 2) := by decide +kernel
theorem dX9_howMany_138 : decode cX9_howMany 138 = .ok (.ifCond .eq 7, 3) := by decide +kernel
theorem dX9_howMany_141 : decode cX9_howMany 141 = .ok (.iconst 1, 1) := by decide +kernel
theorem dX9_howMany_142 : decode cX9_howMany 142 = .ok (.goto 4, 3) := by decide +kernel
theorem dX9_howMany_145 : decode cX9_howMany 145 = .ok (.iconst 0, 1) := by decide +kernel
theorem dX9_howMany_146 : decode cX9_howMany 146 = .ok (.iadd, 1) := by decide +kernel
theorem dX9_howMany_147 : decode cX9_howMany 147 = .ok (.istore_n 2, 1) := by decide +kernel
theorem dX9_howMany_148 : decode cX9_howMany 148 = .ok (.iinc 3 1, 3) := by decide +kernel
theorem dX9_howMany_151 : decode cX9_howMany 151 = .ok (.goto (-143), 3) := by decide +kernel
theorem dX9_howMany_154 : decode cX9_howMany 154 = .ok (.iload_n 2, 1) := by decide +kernel
theorem dX9_howMany_155 : decode cX9_howMany 155 = .ok (.ireturn, 1) := by decide +kernel
theorem dX9_endedNow_0 : decode cX9_endedNow 0 = .ok (.aload_n 0, 1) := by decide +kernel
theorem dX9_endedNow_1 : decode cX9_endedNow 1 = .ok (.invokevirtual 151, 3) := by decide +kernel
theorem dX9_endedNow_4 : decode cX9_endedNow 4 = .ok (.aload_n 0, 1) := by decide +kernel
theorem dX9_endedNow_5 : decode cX9_endedNow 5 = .ok (.getfield 157, 3) := by decide +kernel
theorem dX9_endedNow_8 : decode cX9_endedNow 8 = .ok (.ireturn, 1) := by decide +kernel
theorem dX9_count_0 : decode cX9_count 0 = .ok (.iload_n 1, 1) := by decide +kernel
theorem dX9_count_1 : decode cX9_count 1 = .ok (.i2l, 1) := by decide +kernel
theorem dX9_count_2 : decode cX9_count 2 = .ok (.ldc2_w 92, 3) := by decide +kernel
theorem dX9_count_5 : decode cX9_count 5 = .ok (.ldc2_w 236, 3) := by decide +kernel
theorem dX9_count_8 : decode cX9_count 8 = .ok (.invokestatic 106, 3) := by decide +kernel
theorem dX9_count_11 : decode cX9_count 11 = .ok (.ifCond .eq 9, 3) := by decide +kernel
theorem dX9_count_14 : decode cX9_count 14 = .ok (.aload_n 0, 1) := by decide +kernel
theorem dX9_count_15 : decode cX9_count 15 = .ok (.iload_n 1, 1) := by decide +kernel
theorem dX9_count_16 : decode cX9_count 16 = .ok (.invokevirtual 247, 3) := by decide +kernel
theorem dX9_count_19 : decode cX9_count 19 = .ok (.ireturn, 1) := by decide +kernel
theorem dX9_count_20 : decode cX9_count 20 = .ok (.iload_n 1, 1) := by decide +kernel
theorem dX9_count_21 : decode cX9_count 21 = .ok (.tableswitch 102 0 11 #[63, 70, 77, 82, 87, 102, 102, 102, 102, 102, 92, 97], 63) := by decide +kernel
theorem dX9_count_84 : decode cX9_count 84 = .ok (.aload_n 0, 1) := by decide +kernel
theorem dX9_count_85 : decode cX9_count 85 = .ok (.getfield 7, 3) := by decide +kernel
theorem dX9_count_88 : decode cX9_count 88 = .ok (.iconst 0, 1) := by decide +kernel
theorem dX9_count_89 : decode cX9_count 89 = .ok (.iaload, 1) := by decide +kernel
theorem dX9_count_90 : decode cX9_count 90 = .ok (.ireturn, 1) := by decide +kernel
theorem dX9_count_91 : decode cX9_count 91 = .ok (.aload_n 0, 1) := by decide +kernel
theorem dX9_count_92 : decode cX9_count 92 = .ok (.getfield 7, 3) := by decide +kernel
theorem dX9_count_95 : decode cX9_count 95 = .ok (.iconst 1, 1) := by decide +kernel
theorem dX9_count_96 : decode cX9_count 96 = .ok (.iaload, 1) := by decide +kernel
theorem dX9_count_97 : decode cX9_count 97 = .ok (.ireturn, 1) := by decide +kernel
theorem dX9_count_98 : decode cX9_count 98 = .ok (.aload_n 0, 1) := by decide +kernel
theorem dX9_count_99 : decode cX9_count 99 = .ok (.getfield 88, 3) := by decide +kernel
theorem dX9_count_102 : decode cX9_count 102 = .ok (.ireturn, 1) := by decide +kernel
theorem dX9_count_103 : decode cX9_count 103 = .ok (.aload_n 0, 1) := by decide +kernel
theorem dX9_count_104 : decode cX9_count 104 = .ok (.invokevirtual 154, 3) := by decide +kernel
theorem dX9_count_107 : decode cX9_count 107 = .ok (.ireturn, 1) := by decide +kernel
theorem dX9_count_108 : decode cX9_count 108 = .ok (.aload_n 0, 1) := by decide +kernel
theorem dX9_count_109 : decode cX9_count 109 = .ok (.invokevirtual 250, 3) := by decide +kernel
theorem dX9_count_112 : decode cX9_count 112 = .ok (.ireturn, 1) := by decide +kernel
theorem dX9_count_113 : decode cX9_count 113 = .ok (.aload_n 0, 1) := by decide +kernel
theorem dX9_count_114 : decode cX9_count 114 = .ok (.getfield 142, 3) := by decide +kernel
theorem dX9_count_117 : decode cX9_count 117 = .ok (.ireturn, 1) := by decide +kernel
theorem dX9_count_118 : decode cX9_count 118 = .ok (.aload_n 0, 1) := by decide +kernel
theorem dX9_count_119 : decode cX9_count 119 = .ok (.getfield 99, 3) := by decide +kernel
theorem dX9_count_122 : decode cX9_count 122 = .ok (.ireturn, 1) := by decide +kernel
theorem dX9_count_123 : decode cX9_count 123 = .ok (.iconst (-1), 1) := by decide +kernel
theorem dX9_count_124 : decode cX9_count 124 = .ok (.ireturn, 1) := by decide +kernel
theorem dX9_judgedBy_0 : decode cX9_judgedBy 0 = .ok (.aload_n 0, 1) := by decide +kernel
theorem dX9_judgedBy_1 : decode cX9_judgedBy 1 = .ok (.invokevirtual 233, 3) := by decide +kernel
theorem dX9_judgedBy_4 : decode cX9_judgedBy 4 = .ok (.iconst 0, 1) := by decide +kernel
theorem dX9_judgedBy_5 : decode cX9_judgedBy 5 = .ok (.istore_n 2, 1) := by decide +kernel
theorem dX9_judgedBy_6 : decode cX9_judgedBy 6 = .ok (.iconst 0, 1) := by decide +kernel
theorem dX9_judgedBy_7 : decode cX9_judgedBy 7 = .ok (.istore_n 3, 1) := by decide +kernel
theorem dX9_judgedBy_8 : decode cX9_judgedBy 8 = .ok (.iload_n 3, 1) := by decide +kernel
theorem dX9_judgedBy_9 : decode cX9_judgedBy 9 = .ok (.aload_n 0, 1) := by decide +kernel
theorem dX9_judgedBy_10 : decode cX9_judgedBy 10 = .ok (.getfield 157, 3) := by decide +kernel
theorem dX9_judgedBy_13 : decode cX9_judgedBy 13 = .ok (.if_icmp .ge 32, 3) := by decide +kernel
theorem dX9_judgedBy_16 : decode cX9_judgedBy 16 = .ok (.iload_n 2, 1) := by decide +kernel
theorem dX9_judgedBy_17 : decode cX9_judgedBy 17 = .ok (.aload_n 0, 1) := by decide +kernel
theorem dX9_judgedBy_18 : decode cX9_judgedBy 18 = .ok (.getfield 74, 3) := by decide +kernel
theorem dX9_judgedBy_21 : decode cX9_judgedBy 21 = .ok (.aload_n 0, 1) := by decide +kernel
theorem dX9_judgedBy_22 : decode cX9_judgedBy 22 = .ok (.getfield 68, 3) := by decide +kernel
theorem dX9_judgedBy_25 : decode cX9_judgedBy 25 = .ok (.iload_n 3, 1) := by decide +kernel
theorem dX9_judgedBy_26 : decode cX9_judgedBy 26 = .ok (.iaload, 1) := by decide +kernel
theorem dX9_judgedBy_27 : decode cX9_judgedBy 27 = .ok (.iaload, 1) := by decide +kernel
theorem dX9_judgedBy_28 : decode cX9_judgedBy 28 = .ok (.iload_n 1, 1) := by decide +kernel
theorem dX9_judgedBy_29 : decode cX9_judgedBy 29 = .ok (.if_icmp .ne 7, 3) := by decide +kernel
theorem dX9_judgedBy_32 : decode cX9_judgedBy 32 = .ok (.iconst 1, 1) := by decide +kernel
theorem dX9_judgedBy_33 : decode cX9_judgedBy 33 = .ok (.goto 4, 3) := by decide +kernel
theorem dX9_judgedBy_36 : decode cX9_judgedBy 36 = .ok (.iconst 0, 1) := by decide +kernel
theorem dX9_judgedBy_37 : decode cX9_judgedBy 37 = .ok (.iadd, 1) := by decide +kernel
theorem dX9_judgedBy_38 : decode cX9_judgedBy 38 = .ok (.istore_n 2, 1) := by decide +kernel
theorem dX9_judgedBy_39 : decode cX9_judgedBy 39 = .ok (.iinc 3 1, 3) := by decide +kernel
theorem dX9_judgedBy_42 : decode cX9_judgedBy 42 = .ok (.goto (-34), 3) := by decide +kernel
theorem dX9_judgedBy_45 : decode cX9_judgedBy 45 = .ok (.iload_n 2, 1) := by decide +kernel
theorem dX9_judgedBy_46 : decode cX9_judgedBy 46 = .ok (.ireturn, 1) := by decide +kernel
theorem dX9_told_0 : decode cX9_told 0 = .ok (.aload_n 0, 1) := by decide +kernel
theorem dX9_told_1 : decode cX9_told 1 = .ok (.iload_n 1, 1) := by decide +kernel
theorem dX9_told_2 : decode cX9_told 2 = .ok (.invokevirtual 163, 3) := by decide +kernel
theorem dX9_told_5 : decode cX9_told 5 = .ok (.ifCond .eq 15, 3) := by decide +kernel
theorem dX9_told_8 : decode cX9_told 8 = .ok (.iload_n 2, 1) := by decide +kernel
theorem dX9_told_9 : decode cX9_told 9 = .ok (.i2l, 1) := by decide +kernel
theorem dX9_told_10 : decode cX9_told 10 = .ok (.lconst 0, 1) := by decide +kernel
theorem dX9_told_11 : decode cX9_told 11 = .ok (.ldc2_w 94, 3) := by decide +kernel
theorem dX9_told_14 : decode cX9_told 14 = .ok (.invokestatic 106, 3) := by decide +kernel
theorem dX9_told_17 : decode cX9_told 17 = .ok (.ifCond .ne 5, 3) := by decide +kernel
theorem dX9_told_20 : decode cX9_told 20 = .ok (.iconst (-1), 1) := by decide +kernel
theorem dX9_told_21 : decode cX9_told 21 = .ok (.ireturn, 1) := by decide +kernel
theorem dX9_told_22 : decode cX9_told 22 = .ok (.iload_n 2, 1) := by decide +kernel
theorem dX9_told_23 : decode cX9_told 23 = .ok (.ifCond .ne 12, 3) := by decide +kernel
theorem dX9_told_26 : decode cX9_told 26 = .ok (.aload_n 0, 1) := by decide +kernel
theorem dX9_told_27 : decode cX9_told 27 = .ok (.getfield 13, 3) := by decide +kernel
theorem dX9_told_30 : decode cX9_told 30 = .ok (.iload_n 1, 1) := by decide +kernel
theorem dX9_told_31 : decode cX9_told 31 = .ok (.iaload, 1) := by decide +kernel
theorem dX9_told_32 : decode cX9_told 32 = .ok (.goto 26, 3) := by decide +kernel
theorem dX9_told_35 : decode cX9_told 35 = .ok (.iload_n 2, 1) := by decide +kernel
theorem dX9_told_36 : decode cX9_told 36 = .ok (.iconst 1, 1) := by decide +kernel
theorem dX9_told_37 : decode cX9_told 37 = .ok (.if_icmp .ne 16, 3) := by decide +kernel
theorem dX9_told_40 : decode cX9_told 40 = .ok (.aload_n 0, 1) := by decide +kernel
theorem dX9_told_41 : decode cX9_told 41 = .ok (.getfield 16, 3) := by decide +kernel
theorem dX9_told_44 : decode cX9_told 44 = .ok (.bipush 61, 2) := by decide +kernel
theorem dX9_told_46 : decode cX9_told 46 = .ok (.iload_n 1, 1) := by decide +kernel
theorem dX9_told_47 : decode cX9_told 47 = .ok (.iadd, 1) := by decide +kernel
theorem dX9_told_48 : decode cX9_told 48 = .ok (.laload, 1) := by decide +kernel
theorem dX9_told_49 : decode cX9_told 49 = .ok (.l2i, 1) := by decide +kernel
theorem dX9_told_50 : decode cX9_told 50 = .ok (.goto 8, 3) := by decide +kernel
theorem dX9_told_53 : decode cX9_told 53 = .ok (.aload_n 0, 1) := by decide +kernel
theorem dX9_told_54 : decode cX9_told 54 = .ok (.iload_n 1, 1) := by decide +kernel
theorem dX9_told_55 : decode cX9_told 55 = .ok (.invokevirtual 253, 3) := by decide +kernel
theorem dX9_told_58 : decode cX9_told 58 = .ok (.ireturn, 1) := by decide +kernel
