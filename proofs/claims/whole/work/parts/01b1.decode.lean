theorem dX11_race_9 : decode cX11_race 9 = .ok (.irem, 1) := by decide +kernel
theorem dX11_race_10 : decode cX11_race 10 = .ok (.istore 6, 2) := by decide +kernel
theorem dX11_race_12 : decode cX11_race 12 = .ok (.iload_n 2, 1) := by decide +kernel
theorem dX11_race_13 : decode cX11_race 13 = .ok (.bipush 10, 2) := by decide +kernel
theorem dX11_race_15 : decode cX11_race 15 = .ok (.idiv, 1) := by decide +kernel
theorem dX11_race_16 : decode cX11_race 16 = .ok (.istore 7, 2) := by decide +kernel
theorem dX11_race_18 : decode cX11_race 18 = .ok (.iload_n 2, 1) := by decide +kernel
theorem dX11_race_19 : decode cX11_race 19 = .ok (.bipush 10, 2) := by decide +kernel
theorem dX11_race_21 : decode cX11_race 21 = .ok (.irem, 1) := by decide +kernel
theorem dX11_race_22 : decode cX11_race 22 = .ok (.istore 8, 2) := by decide +kernel
theorem dX11_race_24 : decode cX11_race 24 = .ok (.iload_n 1, 1) := by decide +kernel
theorem dX11_race_25 : decode cX11_race 25 = .ok (.ifCond .lt 42, 3) := by decide +kernel
theorem dX11_race_28 : decode cX11_race 28 = .ok (.iload_n 2, 1) := by decide +kernel
theorem dX11_race_29 : decode cX11_race 29 = .ok (.ifCond .lt 38, 3) := by decide +kernel
theorem dX11_race_32 : decode cX11_race 32 = .ok (.iload 5, 2) := by decide +kernel
theorem dX11_race_34 : decode cX11_race 34 = .ok (.aload_n 0, 1) := by decide +kernel
theorem dX11_race_35 : decode cX11_race 35 = .ok (.getfield 51, 3) := by decide +kernel
theorem dX11_race_38 : decode cX11_race 38 = .ok (.getfield 174, 3) := by decide +kernel
theorem dX11_race_41 : decode cX11_race 41 = .ok (.if_icmp .ge 26, 3) := by decide +kernel
theorem dX11_race_44 : decode cX11_race 44 = .ok (.aload_n 0, 1) := by decide +kernel
theorem dX11_race_45 : decode cX11_race 45 = .ok (.getfield 26, 3) := by decide +kernel
theorem dX11_race_48 : decode cX11_race 48 = .ok (.iload 6, 2) := by decide +kernel
theorem dX11_race_50 : decode cX11_race 50 = .ok (.invokevirtual 133, 3) := by decide +kernel
theorem dX11_race_53 : decode cX11_race 53 = .ok (.ifCond .eq 14, 3) := by decide +kernel
theorem dX11_race_56 : decode cX11_race 56 = .ok (.iload 7, 2) := by decide +kernel
theorem dX11_race_58 : decode cX11_race 58 = .ok (.iconst 0, 1) := by decide +kernel
theorem dX11_race_59 : decode cX11_race 59 = .ok (.bipush 99, 2) := by decide +kernel
theorem dX11_race_61 : decode cX11_race 61 = .ok (.invokestatic 89, 3) := by decide +kernel
theorem dX11_race_64 : decode cX11_race 64 = .ok (.ifCond .ne 5, 3) := by decide +kernel
theorem dX11_race_67 : decode cX11_race 67 = .ok (.iconst (-1), 1) := by decide +kernel
theorem dX11_race_68 : decode cX11_race 68 = .ok (.ireturn, 1) := by decide +kernel
theorem dX11_race_69 : decode cX11_race 69 = .ok (.aload_n 0, 1) := by decide +kernel
theorem dX11_race_70 : decode cX11_race 70 = .ok (.getfield 19, 3) := by decide +kernel
theorem dX11_race_73 : decode cX11_race 73 = .ok (.iload 8, 2) := by decide +kernel
theorem dX11_race_75 : decode cX11_race 75 = .ok (.invokevirtual 134, 3) := by decide +kernel
theorem dX11_race_78 : decode cX11_race 78 = .ok (.ifCond .eq 29, 3) := by decide +kernel
theorem dX11_race_81 : decode cX11_race 81 = .ok (.aload_n 0, 1) := by decide +kernel
theorem dX11_race_82 : decode cX11_race 82 = .ok (.getfield 19, 3) := by decide +kernel
theorem dX11_race_85 : decode cX11_race 85 = .ok (.getfield 177, 3) := by decide +kernel
theorem dX11_race_88 : decode cX11_race 88 = .ok (.iload 8, 2) := by decide +kernel
theorem dX11_race_90 : decode cX11_race 90 = .ok (.iaload, 1) := by decide +kernel
theorem dX11_race_91 : decode cX11_race 91 = .ok (.iload 7, 2) := by decide +kernel
theorem dX11_race_93 : decode cX11_race 93 = .ok (.if_icmp .gt 14, 3) := by decide +kernel
theorem dX11_race_96 : decode cX11_race 96 = .ok (.iload_n 3, 1) := by decide +kernel
theorem dX11_race_97 : decode cX11_race 97 = .ok (.bipush (-50), 2) := by decide +kernel
theorem dX11_race_99 : decode cX11_race 99 = .ok (.bipush 50, 2) := by decide +kernel
theorem dX11_race_101 : decode cX11_race 101 = .ok (.invokestatic 89, 3) := by decide +kernel
theorem dX11_race_104 : decode cX11_race 104 = .ok (.ifCond .ne 5, 3) := by decide +kernel
theorem dX11_race_107 : decode cX11_race 107 = .ok (.iconst (-1), 1) := by decide +kernel
theorem dX11_race_108 : decode cX11_race 108 = .ok (.ireturn, 1) := by decide +kernel
theorem dX11_race_109 : decode cX11_race 109 = .ok (.aload_n 0, 1) := by decide +kernel
theorem dX11_race_110 : decode cX11_race 110 = .ok (.getfield 35, 3) := by decide +kernel
theorem dX11_race_113 : decode cX11_race 113 = .ok (.getfield 180, 3) := by decide +kernel
theorem dX11_race_116 : decode cX11_race 116 = .ok (.aload_n 0, 1) := by decide +kernel
theorem dX11_race_117 : decode cX11_race 117 = .ok (.getfield 10, 3) := by decide +kernel
theorem dX11_race_120 : decode cX11_race 120 = .ok (.getfield 181, 3) := by decide +kernel
theorem dX11_race_123 : decode cX11_race 123 = .ok (.iadd, 1) := by decide +kernel
theorem dX11_race_124 : decode cX11_race 124 = .ok (.bipush 120, 2) := by decide +kernel
theorem dX11_race_126 : decode cX11_race 126 = .ok (.if_icmp .le 6, 3) := by decide +kernel
theorem dX11_race_129 : decode cX11_race 129 = .ok (.bipush (-5), 2) := by decide +kernel
theorem dX11_race_131 : decode cX11_race 131 = .ok (.ireturn, 1) := by decide +kernel
theorem dX11_race_132 : decode cX11_race 132 = .ok (.iload 4, 2) := by decide +kernel
theorem dX11_race_134 : decode cX11_race 134 = .ok (.istore 9, 2) := by decide +kernel
theorem dX11_race_136 : decode cX11_race 136 = .ok (.iconst 0, 1) := by decide +kernel
theorem dX11_race_137 : decode cX11_race 137 = .ok (.istore 10, 2) := by decide +kernel
theorem dX11_race_139 : decode cX11_race 139 = .ok (.iload 10, 2) := by decide +kernel
theorem dX11_race_141 : decode cX11_race 141 = .ok (.aload_n 0, 1) := by decide +kernel
theorem dX11_race_142 : decode cX11_race 142 = .ok (.getfield 10, 3) := by decide +kernel
theorem dX11_race_145 : decode cX11_race 145 = .ok (.getfield 181, 3) := by decide +kernel
theorem dX11_race_148 : decode cX11_race 148 = .ok (.if_icmp .ge 135, 3) := by decide +kernel
theorem dX11_race_151 : decode cX11_race 151 = .ok (.iload 9, 2) := by decide +kernel
theorem dX11_race_153 : decode cX11_race 153 = .ok (.invokestatic 182, 3) := by decide +kernel
theorem dX11_race_156 : decode cX11_race 156 = .ok (.istore 9, 2) := by decide +kernel
theorem dX11_race_158 : decode cX11_race 158 = .ok (.aload_n 0, 1) := by decide +kernel
theorem dX11_race_159 : decode cX11_race 159 = .ok (.iload 5, 2) := by decide +kernel
theorem dX11_race_161 : decode cX11_race 161 = .ok (.iload 10, 2) := by decide +kernel
theorem dX11_race_163 : decode cX11_race 163 = .ok (.iload 7, 2) := by decide +kernel
theorem dX11_race_165 : decode cX11_race 165 = .ok (.iload 8, 2) := by decide +kernel
theorem dX11_race_167 : decode cX11_race 167 = .ok (.iload 9, 2) := by decide +kernel
theorem dX11_race_169 : decode cX11_race 169 = .ok (.bipush 100, 2) := by decide +kernel
theorem dX11_race_171 : decode cX11_race 171 = .ok (.invokestatic 185, 3) := by decide +kernel
theorem dX11_race_174 : decode cX11_race 174 = .ok (.invokevirtual 188, 3) := by decide +kernel
theorem dX11_race_177 : decode cX11_race 177 = .ok (.ifCond .eq 8, 3) := by decide +kernel
theorem dX11_race_180 : decode cX11_race 180 = .ok (.iload 8, 2) := by decide +kernel
theorem dX11_race_182 : decode cX11_race 182 = .ok (.goto 4, 3) := by decide +kernel
theorem dX11_race_185 : decode cX11_race 185 = .ok (.iconst 0, 1) := by decide +kernel
theorem dX11_race_186 : decode cX11_race 186 = .ok (.istore 11, 2) := by decide +kernel
theorem dX11_race_188 : decode cX11_race 188 = .ok (.iload 9, 2) := by decide +kernel
theorem dX11_race_190 : decode cX11_race 190 = .ok (.invokestatic 182, 3) := by decide +kernel
theorem dX11_race_193 : decode cX11_race 193 = .ok (.istore 9, 2) := by decide +kernel
theorem dX11_race_195 : decode cX11_race 195 = .ok (.iload_n 3, 1) := by decide +kernel
theorem dX11_race_196 : decode cX11_race 196 = .ok (.iload 9, 2) := by decide +kernel
theorem dX11_race_198 : decode cX11_race 198 = .ok (.bipush 21, 2) := by decide +kernel
theorem dX11_race_200 : decode cX11_race 200 = .ok (.invokestatic 185, 3) := by decide +kernel
theorem dX11_race_203 : decode cX11_race 203 = .ok (.iadd, 1) := by decide +kernel
theorem dX11_race_204 : decode cX11_race 204 = .ok (.bipush 10, 2) := by decide +kernel
theorem dX11_race_206 : decode cX11_race 206 = .ok (.isub, 1) := by decide +kernel
theorem dX11_race_207 : decode cX11_race 207 = .ok (.aload_n 0, 1) := by decide +kernel
theorem dX11_race_208 : decode cX11_race 208 = .ok (.getfield 19, 3) := by decide +kernel
theorem dX11_race_211 : decode cX11_race 211 = .ok (.getfield 191, 3) := by decide +kernel
theorem dX11_race_214 : decode cX11_race 214 = .ok (.iload 11, 2) := by decide +kernel
theorem dX11_race_216 : decode cX11_race 216 = .ok (.iaload, 1) := by decide +kernel
theorem dX11_race_217 : decode cX11_race 217 = .ok (.isub, 1) := by decide +kernel
theorem dX11_race_218 : decode cX11_race 218 = .ok (.istore 12, 2) := by decide +kernel
theorem dX11_race_220 : decode cX11_race 220 = .ok (.aload_n 0, 1) := by decide +kernel
theorem dX11_race_221 : decode cX11_race 221 = .ok (.iload 10, 2) := by decide +kernel
theorem dX11_race_223 : decode cX11_race 223 = .ok (.iload 6, 2) := by decide +kernel
theorem dX11_race_225 : decode cX11_race 225 = .ok (.iload 7, 2) := by decide +kernel
theorem dX11_race_227 : decode cX11_race 227 = .ok (.iload 12, 2) := by decide +kernel
theorem dX11_race_229 : decode cX11_race 229 = .ok (.invokevirtual 194, 3) := by decide +kernel
theorem dX11_race_232 : decode cX11_race 232 = .ok (.istore 13, 2) := by decide +kernel
theorem dX11_race_234 : decode cX11_race 234 = .ok (.iload 9, 2) := by decide +kernel
theorem dX11_race_236 : decode cX11_race 236 = .ok (.invokestatic 182, 3) := by decide +kernel
theorem dX11_race_239 : decode cX11_race 239 = .ok (.istore 9, 2) := by decide +kernel
theorem dX11_race_241 : decode cX11_race 241 = .ok (.aload_n 0, 1) := by decide +kernel
theorem dX11_race_242 : decode cX11_race 242 = .ok (.getfield 35, 3) := by decide +kernel
theorem dX11_race_245 : decode cX11_race 245 = .ok (.iload 10, 2) := by decide +kernel
theorem dX11_race_247 : decode cX11_race 247 = .ok (.iload 6, 2) := by decide +kernel
theorem dX11_race_249 : decode cX11_race 249 = .ok (.iload 7, 2) := by decide +kernel
theorem dX11_race_251 : decode cX11_race 251 = .ok (.iload 13, 2) := by decide +kernel
theorem dX11_race_253 : decode cX11_race 253 = .ok (.iload 9, 2) := by decide +kernel
theorem dX11_race_255 : decode cX11_race 255 = .ok (.bipush 100, 2) := by decide +kernel
theorem dX11_race_257 : decode cX11_race 257 = .ok (.invokestatic 185, 3) := by decide +kernel
theorem dX11_race_260 : decode cX11_race 260 = .ok (.aload_n 0, 1) := by decide +kernel
theorem dX11_race_261 : decode cX11_race 261 = .ok (.getfield 85, 3) := by decide +kernel
theorem dX11_race_264 : decode cX11_race 264 = .ok (.if_icmp .ge 8, 3) := by decide +kernel
theorem dX11_race_267 : decode cX11_race 267 = .ok (.iload 11, 2) := by decide +kernel
theorem dX11_race_269 : decode cX11_race 269 = .ok (.goto 4, 3) := by decide +kernel
theorem dX11_race_272 : decode cX11_race 272 = .ok (.iconst (-1), 1) := by decide +kernel
theorem dX11_race_273 : decode cX11_race 273 = .ok (.invokevirtual 108, 3) := by decide +kernel
theorem dX11_race_276 : decode cX11_race 276 = .ok (.pop, 1) := by decide +kernel
theorem dX11_race_277 : decode cX11_race 277 = .ok (.iinc 10 1, 3) := by decide +kernel
theorem dX11_race_280 : decode cX11_race 280 = .ok (.goto (-141), 3) := by decide +kernel
theorem dX11_race_283 : decode cX11_race 283 = .ok (.aload_n 0, 1) := by decide +kernel
theorem dX11_race_284 : decode cX11_race 284 = .ok (.getfield 10, 3) := by decide +kernel
theorem dX11_race_287 : decode cX11_race 287 = .ok (.getfield 181, 3) := by decide +kernel
theorem dX11_race_290 : decode cX11_race 290 = .ok (.ireturn, 1) := by decide +kernel
theorem dX11_drawn_0 : decode cX11_drawn 0 = .ok (.iload_n 0, 1) := by decide +kernel
theorem dX11_drawn_1 : decode cX11_drawn 1 = .ok (.ldc 197, 2) := by decide +kernel
theorem dX11_drawn_3 : decode cX11_drawn 3 = .ok (.imul, 1) := by decide +kernel
theorem dX11_drawn_4 : decode cX11_drawn 4 = .ok (.sipush 12345, 3) := by decide +kernel
theorem dX11_drawn_7 : decode cX11_drawn 7 = .ok (.iadd, 1) := by decide +kernel
theorem dX11_drawn_8 : decode cX11_drawn 8 = .ok (.ireturn, 1) := by decide +kernel
theorem dX11_part_0 : decode cX11_part 0 = .ok (.iload_n 1, 1) := by decide +kernel
theorem dX11_part_1 : decode cX11_part 1 = .ok (.ifCond .ne 7, 3) := by decide +kernel
theorem dX11_part_4 : decode cX11_part 4 = .ok (.iconst 0, 1) := by decide +kernel
theorem dX11_part_5 : decode cX11_part 5 = .ok (.goto 9, 3) := by decide +kernel
theorem dX11_part_8 : decode cX11_part 8 = .ok (.iload_n 0, 1) := by decide +kernel
theorem dX11_part_9 : decode cX11_part 9 = .ok (.bipush 8, 2) := by decide +kernel
theorem dX11_part_11 : decode cX11_part 11 = .ok (.iushr, 1) := by decide +kernel
theorem dX11_part_12 : decode cX11_part 12 = .ok (.iload_n 1, 1) := by decide +kernel
theorem dX11_part_13 : decode cX11_part 13 = .ok (.irem, 1) := by decide +kernel
theorem dX11_part_14 : decode cX11_part 14 = .ok (.ireturn, 1) := by decide +kernel
theorem dX11_wears_0 : decode cX11_wears 0 = .ok (.aload_n 0, 1) := by decide +kernel
theorem dX11_wears_1 : decode cX11_wears 1 = .ok (.getfield 51, 3) := by decide +kernel
theorem dX11_wears_4 : decode cX11_wears 4 = .ok (.getfield 198, 3) := by decide +kernel
theorem dX11_wears_7 : decode cX11_wears 7 = .ok (.astore 6, 2) := by decide +kernel
theorem dX11_wears_9 : decode cX11_wears 9 = .ok (.aload 6, 2) := by decide +kernel
theorem dX11_wears_11 : decode cX11_wears 11 = .ok (.iconst 0, 1) := by decide +kernel
theorem dX11_wears_12 : decode cX11_wears 12 = .ok (.aload_n 0, 1) := by decide +kernel
theorem dX11_wears_13 : decode cX11_wears 13 = .ok (.getfield 10, 3) := by decide +kernel
theorem dX11_wears_16 : decode cX11_wears 16 = .ok (.iload_n 2, 1) := by decide +kernel
theorem dX11_wears_17 : decode cX11_wears 17 = .ok (.iload_n 3, 1) := by decide +kernel
theorem dX11_wears_18 : decode cX11_wears 18 = .ok (.invokevirtual 201, 3) := by decide +kernel
theorem dX11_wears_21 : decode cX11_wears 21 = .ok (.bipush 10, 2) := by decide +kernel
theorem dX11_wears_23 : decode cX11_wears 23 = .ok (.idiv, 1) := by decide +kernel
theorem dX11_wears_24 : decode cX11_wears 24 = .ok (.iastore, 1) := by decide +kernel
theorem dX11_wears_25 : decode cX11_wears 25 = .ok (.aload 6, 2) := by decide +kernel
theorem dX11_wears_27 : decode cX11_wears 27 = .ok (.iconst 1, 1) := by decide +kernel
theorem dX11_wears_28 : decode cX11_wears 28 = .ok (.aload_n 0, 1) := by decide +kernel
theorem dX11_wears_29 : decode cX11_wears 29 = .ok (.getfield 10, 3) := by decide +kernel
theorem dX11_wears_32 : decode cX11_wears 32 = .ok (.getfield 204, 3) := by decide +kernel
theorem dX11_wears_35 : decode cX11_wears 35 = .ok (.iload_n 2, 1) := by decide +kernel
theorem dX11_wears_36 : decode cX11_wears 36 = .ok (.iaload, 1) := by decide +kernel
theorem dX11_wears_37 : decode cX11_wears 37 = .ok (.iastore, 1) := by decide +kernel
theorem dX11_wears_38 : decode cX11_wears 38 = .ok (.aload 6, 2) := by decide +kernel
theorem dX11_wears_40 : decode cX11_wears 40 = .ok (.iconst 2, 1) := by decide +kernel
theorem dX11_wears_41 : decode cX11_wears 41 = .ok (.aload_n 0, 1) := by decide +kernel
theorem dX11_wears_42 : decode cX11_wears 42 = .ok (.getfield 10, 3) := by decide +kernel
theorem dX11_wears_45 : decode cX11_wears 45 = .ok (.getfield 207, 3) := by decide +kernel
theorem dX11_wears_48 : decode cX11_wears 48 = .ok (.iload_n 2, 1) := by decide +kernel
theorem dX11_wears_49 : decode cX11_wears 49 = .ok (.iaload, 1) := by decide +kernel
theorem dX11_wears_50 : decode cX11_wears 50 = .ok (.iastore, 1) := by decide +kernel
theorem dX11_wears_51 : decode cX11_wears 51 = .ok (.aload 6, 2) := by decide +kernel
theorem dX11_wears_53 : decode cX11_wears 53 = .ok (.iconst 3, 1) := by decide +kernel
theorem dX11_wears_54 : decode cX11_wears 54 = .ok (.iload_n 3, 1) := by decide +kernel
theorem dX11_wears_55 : decode cX11_wears 55 = .ok (.iastore, 1) := by decide +kernel
theorem dX11_wears_56 : decode cX11_wears 56 = .ok (.aload 6, 2) := by decide +kernel
theorem dX11_wears_58 : decode cX11_wears 58 = .ok (.iconst 4, 1) := by decide +kernel
theorem dX11_wears_59 : decode cX11_wears 59 = .ok (.aload_n 0, 1) := by decide +kernel
theorem dX11_wears_60 : decode cX11_wears 60 = .ok (.getfield 10, 3) := by decide +kernel
theorem dX11_wears_63 : decode cX11_wears 63 = .ok (.iload_n 2, 1) := by decide +kernel
theorem dX11_wears_64 : decode cX11_wears 64 = .ok (.iload_n 3, 1) := by decide +kernel
theorem dX11_wears_65 : decode cX11_wears 65 = .ok (.invokevirtual 210, 3) := by decide +kernel
theorem dX11_wears_68 : decode cX11_wears 68 = .ok (.iastore, 1) := by decide +kernel
theorem dX11_wears_69 : decode cX11_wears 69 = .ok (.aload 6, 2) := by decide +kernel
theorem dX11_wears_71 : decode cX11_wears 71 = .ok (.iconst 5, 1) := by decide +kernel
theorem dX11_wears_72 : decode cX11_wears 72 = .ok (.aload_n 0, 1) := by decide +kernel
theorem dX11_wears_73 : decode cX11_wears 73 = .ok (.getfield 10, 3) := by decide +kernel
theorem dX11_wears_76 : decode cX11_wears 76 = .ok (.getfield 181, 3) := by decide +kernel
theorem dX11_wears_79 : decode cX11_wears 79 = .ok (.iastore, 1) := by decide +kernel
theorem dX11_wears_80 : decode cX11_wears 80 = .ok (.aload 6, 2) := by decide +kernel
theorem dX11_wears_82 : decode cX11_wears 82 = .ok (.bipush 6, 2) := by decide +kernel
theorem dX11_wears_84 : decode cX11_wears 84 = .ok (.aload_n 0, 1) := by decide +kernel
theorem dX11_wears_85 : decode cX11_wears 85 = .ok (.getfield 19, 3) := by decide +kernel
theorem dX11_wears_88 : decode cX11_wears 88 = .ok (.getfield 191, 3) := by decide +kernel
theorem dX11_wears_91 : decode cX11_wears 91 = .ok (.iload 4, 2) := by decide +kernel
theorem dX11_wears_93 : decode cX11_wears 93 = .ok (.iaload, 1) := by decide +kernel
theorem dX11_wears_94 : decode cX11_wears 94 = .ok (.iastore, 1) := by decide +kernel
theorem dX11_wears_95 : decode cX11_wears 95 = .ok (.aload 6, 2) := by decide +kernel
theorem dX11_wears_97 : decode cX11_wears 97 = .ok (.bipush 7, 2) := by decide +kernel
theorem dX11_wears_99 : decode cX11_wears 99 = .ok (.aload_n 0, 1) := by decide +kernel
theorem dX11_wears_100 : decode cX11_wears 100 = .ok (.getfield 19, 3) := by decide +kernel
theorem dX11_wears_103 : decode cX11_wears 103 = .ok (.getfield 213, 3) := by decide +kernel
theorem dX11_wears_106 : decode cX11_wears 106 = .ok (.iload 4, 2) := by decide +kernel
theorem dX11_wears_108 : decode cX11_wears 108 = .ok (.iaload, 1) := by decide +kernel
theorem dX11_wears_109 : decode cX11_wears 109 = .ok (.iastore, 1) := by decide +kernel
theorem dX11_wears_110 : decode cX11_wears 110 = .ok (.aload 6, 2) := by decide +kernel
theorem dX11_wears_112 : decode cX11_wears 112 = .ok (.bipush 8, 2) := by decide +kernel
theorem dX11_wears_114 : decode cX11_wears 114 = .ok (.iload 5, 2) := by decide +kernel
theorem dX11_wears_116 : decode cX11_wears 116 = .ok (.iastore, 1) := by decide +kernel
theorem dX11_wears_117 : decode cX11_wears 117 = .ok (.aload_n 0, 1) := by decide +kernel
theorem dX11_wears_118 : decode cX11_wears 118 = .ok (.getfield 51, 3) := by decide +kernel
theorem dX11_wears_121 : decode cX11_wears 121 = .ok (.iload_n 1, 1) := by decide +kernel
theorem dX11_wears_122 : decode cX11_wears 122 = .ok (.invokevirtual 216, 3) := by decide +kernel
theorem dX11_wears_125 : decode cX11_wears 125 = .ok (.ifCond .eq 7, 3) := by decide +kernel
theorem dX11_wears_128 : decode cX11_wears 128 = .ok (.iconst 1, 1) := by decide +kernel
theorem dX11_wears_129 : decode cX11_wears 129 = .ok (.goto 4, 3) := by decide +kernel
theorem dX11_wears_132 : decode cX11_wears 132 = .ok (.iconst 0, 1) := by decide +kernel
theorem dX11_wears_133 : decode cX11_wears 133 = .ok (.ireturn, 1) := by decide +kernel
theorem dX11_timeOf_0 : decode cX11_timeOf 0 = .ok (.aload_n 0, 1) := by decide +kernel
theorem dX11_timeOf_1 : decode cX11_timeOf 1 = .ok (.getfield 10, 3) := by decide +kernel
theorem dX11_timeOf_4 : decode cX11_timeOf 4 = .ok (.iload_n 1, 1) := by decide +kernel
theorem dX11_timeOf_5 : decode cX11_timeOf 5 = .ok (.iload_n 3, 1) := by decide +kernel
theorem dX11_timeOf_6 : decode cX11_timeOf 6 = .ok (.invokevirtual 201, 3) := by decide +kernel
theorem dX11_timeOf_9 : decode cX11_timeOf 9 = .ok (.aload_n 0, 1) := by decide +kernel
theorem dX11_timeOf_10 : decode cX11_timeOf 10 = .ok (.getfield 26, 3) := by decide +kernel
theorem dX11_timeOf_13 : decode cX11_timeOf 13 = .ok (.getfield 219, 3) := by decide +kernel
theorem dX11_timeOf_16 : decode cX11_timeOf 16 = .ok (.iload_n 2, 1) := by decide +kernel
theorem dX11_timeOf_17 : decode cX11_timeOf 17 = .ok (.iaload, 1) := by decide +kernel
theorem dX11_timeOf_18 : decode cX11_timeOf 18 = .ok (.imul, 1) := by decide +kernel
theorem dX11_timeOf_19 : decode cX11_timeOf 19 = .ok (.sipush 1000, 3) := by decide +kernel
theorem dX11_timeOf_22 : decode cX11_timeOf 22 = .ok (.idiv, 1) := by decide +kernel
theorem dX11_timeOf_23 : decode cX11_timeOf 23 = .ok (.istore 5, 2) := by decide +kernel
theorem dX11_timeOf_25 : decode cX11_timeOf 25 = .ok (.bipush 10, 2) := by decide +kernel
theorem dX11_timeOf_27 : decode cX11_timeOf 27 = .ok (.sipush 29999, 3) := by decide +kernel
theorem dX11_timeOf_30 : decode cX11_timeOf 30 = .ok (.iload 5, 2) := by decide +kernel
theorem dX11_timeOf_32 : decode cX11_timeOf 32 = .ok (.sipush 1000, 3) := by decide +kernel
theorem dX11_timeOf_35 : decode cX11_timeOf 35 = .ok (.iload 4, 2) := by decide +kernel
theorem dX11_timeOf_37 : decode cX11_timeOf 37 = .ok (.iadd, 1) := by decide +kernel
theorem dX11_timeOf_38 : decode cX11_timeOf 38 = .ok (.imul, 1) := by decide +kernel
theorem dX11_timeOf_39 : decode cX11_timeOf 39 = .ok (.sipush 1000, 3) := by decide +kernel
theorem dX11_timeOf_42 : decode cX11_timeOf 42 = .ok (.idiv, 1) := by decide +kernel
theorem dX11_timeOf_43 : decode cX11_timeOf 43 = .ok (.invokestatic 222, 3) := by decide +kernel
theorem dX11_timeOf_46 : decode cX11_timeOf 46 = .ok (.invokestatic 227, 3) := by decide +kernel
theorem dX11_timeOf_49 : decode cX11_timeOf 49 = .ok (.ireturn, 1) := by decide +kernel
theorem dX11_changed_0 : decode cX11_changed 0 = .ok (.iload_n 1, 1) := by decide +kernel
theorem dX11_changed_1 : decode cX11_changed 1 = .ok (.iconst 0, 1) := by decide +kernel
theorem dX11_changed_2 : decode cX11_changed 2 = .ok (.iconst 3, 1) := by decide +kernel
theorem dX11_changed_3 : decode cX11_changed 3 = .ok (.invokestatic 89, 3) := by decide +kernel
theorem dX11_changed_6 : decode cX11_changed 6 = .ok (.ifCond .eq 12, 3) := by decide +kernel
theorem dX11_changed_9 : decode cX11_changed 9 = .ok (.iload_n 2, 1) := by decide +kernel
theorem dX11_changed_10 : decode cX11_changed 10 = .ok (.iconst 0, 1) := by decide +kernel
theorem dX11_changed_11 : decode cX11_changed 11 = .ok (.iconst 1, 1) := by decide +kernel
theorem dX11_changed_12 : decode cX11_changed 12 = .ok (.invokestatic 89, 3) := by decide +kernel
theorem dX11_changed_15 : decode cX11_changed 15 = .ok (.ifCond .ne 6, 3) := by decide +kernel
theorem dX11_changed_18 : decode cX11_changed 18 = .ok (.ldc 136, 2) := by decide +kernel
theorem dX11_changed_20 : decode cX11_changed 20 = .ok (.ireturn, 1) := by decide +kernel
theorem dX11_changed_21 : decode cX11_changed 21 = .ok (.aload_n 0, 1) := by decide +kernel
theorem dX11_changed_22 : decode cX11_changed 22 = .ok (.getfield 60, 3) := by decide +kernel
theorem dX11_changed_25 : decode cX11_changed 25 = .ok (.invokevirtual 230, 3) := by decide +kernel
theorem dX11_changed_28 : decode cX11_changed 28 = .ok (.iload_n 2, 1) := by decide +kernel
theorem dX11_changed_29 : decode cX11_changed 29 = .ok (.ifCond .ne 14, 3) := by decide +kernel
theorem dX11_changed_32 : decode cX11_changed 32 = .ok (.aload_n 0, 1) := by decide +kernel
theorem dX11_changed_33 : decode cX11_changed 33 = .ok (.getfield 60, 3) := by decide +kernel
theorem dX11_changed_36 : decode cX11_changed 36 = .ok (.iload_n 1, 1) := by decide +kernel
theorem dX11_changed_37 : decode cX11_changed 37 = .ok (.invokevirtual 233, 3) := by decide +kernel
theorem dX11_changed_40 : decode cX11_changed 40 = .ok (.goto 12, 3) := by decide +kernel
theorem dX11_changed_43 : decode cX11_changed 43 = .ok (.aload_n 0, 1) := by decide +kernel
theorem dX11_changed_44 : decode cX11_changed 44 = .ok (.getfield 60, 3) := by decide +kernel
theorem dX11_changed_47 : decode cX11_changed 47 = .ok (.getfield 236, 3) := by decide +kernel
theorem dX11_changed_50 : decode cX11_changed 50 = .ok (.iload_n 1, 1) := by decide +kernel
theorem dX11_changed_51 : decode cX11_changed 51 = .ok (.iaload, 1) := by decide +kernel
theorem dX11_changed_52 : decode cX11_changed 52 = .ok (.ireturn, 1) := by decide +kernel
theorem dX11_gain_0 : decode cX11_gain 0 = .ok (.aload_n 0, 1) := by decide +kernel
theorem dX11_gain_1 : decode cX11_gain 1 = .ok (.getfield 60, 3) := by decide +kernel
theorem dX11_gain_4 : decode cX11_gain 4 = .ok (.invokevirtual 230, 3) := by decide +kernel
theorem dX11_gain_7 : decode cX11_gain 7 = .ok (.iload_n 1, 1) := by decide +kernel
theorem dX11_gain_8 : decode cX11_gain 8 = .ok (.tableswitch 88 0 4 #[36, 44, 52, 70, 79], 36) := by decide +kernel
theorem dX11_gain_44 : decode cX11_gain 44 = .ok (.aload_n 0, 1) := by decide +kernel
theorem dX11_gain_45 : decode cX11_gain 45 = .ok (.getfield 60, 3) := by decide +kernel
theorem dX11_gain_48 : decode cX11_gain 48 = .ok (.invokevirtual 239, 3) := by decide +kernel
theorem dX11_gain_51 : decode cX11_gain 51 = .ok (.ireturn, 1) := by decide +kernel
theorem dX11_gain_52 : decode cX11_gain 52 = .ok (.aload_n 0, 1) := by decide +kernel
theorem dX11_gain_53 : decode cX11_gain 53 = .ok (.getfield 60, 3) := by decide +kernel
theorem dX11_gain_56 : decode cX11_gain 56 = .ok (.invokevirtual 242, 3) := by decide +kernel
theorem dX11_gain_59 : decode cX11_gain 59 = .ok (.ireturn, 1) := by decide +kernel
theorem dX11_gain_60 : decode cX11_gain 60 = .ok (.aload_n 0, 1) := by decide +kernel
theorem dX11_gain_61 : decode cX11_gain 61 = .ok (.getfield 60, 3) := by decide +kernel
theorem dX11_gain_64 : decode cX11_gain 64 = .ok (.invokevirtual 242, 3) := by decide +kernel
theorem dX11_gain_67 : decode cX11_gain 67 = .ok (.aload_n 0, 1) := by decide +kernel
theorem dX11_gain_68 : decode cX11_gain 68 = .ok (.getfield 60, 3) := by decide +kernel
theorem dX11_gain_71 : decode cX11_gain 71 = .ok (.invokevirtual 239, 3) := by decide +kernel
theorem dX11_gain_74 : decode cX11_gain 74 = .ok (.invokestatic 245, 3) := by decide +kernel
theorem dX11_gain_77 : decode cX11_gain 77 = .ok (.ireturn, 1) := by decide +kernel
theorem dX11_gain_78 : decode cX11_gain 78 = .ok (.aload_n 0, 1) := by decide +kernel
theorem dX11_gain_79 : decode cX11_gain 79 = .ok (.getfield 60, 3) := by decide +kernel
theorem dX11_gain_82 : decode cX11_gain 82 = .ok (.iconst 0, 1) := by decide +kernel
theorem dX11_gain_83 : decode cX11_gain 83 = .ok (.invokevirtual 248, 3) := by decide +kernel
theorem dX11_gain_86 : decode cX11_gain 86 = .ok (.ireturn, 1) := by decide +kernel
theorem dX11_gain_87 : decode cX11_gain 87 = .ok (.aload_n 0, 1) := by decide +kernel
theorem dX11_gain_88 : decode cX11_gain 88 = .ok (.getfield 60, 3) := by decide +kernel
theorem dX11_gain_91 : decode cX11_gain 91 = .ok (.iconst 1, 1) := by decide +kernel
theorem dX11_gain_92 : decode cX11_gain 92 = .ok (.invokevirtual 248, 3) := by decide +kernel
theorem dX11_gain_95 : decode cX11_gain 95 = .ok (.ireturn, 1) := by decide +kernel
theorem dX11_gain_96 : decode cX11_gain 96 = .ok (.ldc 136, 2) := by decide +kernel
theorem dX11_gain_98 : decode cX11_gain 98 = .ok (.ireturn, 1) := by decide +kernel
theorem dX11_unseen_0 : decode cX11_unseen 0 = .ok (.iload_n 1, 1) := by decide +kernel
theorem dX11_unseen_1 : decode cX11_unseen 1 = .ok (.ifCond .lt 26, 3) := by decide +kernel
theorem dX11_unseen_4 : decode cX11_unseen 4 = .ok (.aload_n 0, 1) := by decide +kernel
theorem dX11_unseen_5 : decode cX11_unseen 5 = .ok (.getfield 26, 3) := by decide +kernel
theorem dX11_unseen_8 : decode cX11_unseen 8 = .ok (.iload_n 1, 1) := by decide +kernel
theorem dX11_unseen_9 : decode cX11_unseen 9 = .ok (.bipush 100, 2) := by decide +kernel
theorem dX11_unseen_11 : decode cX11_unseen 11 = .ok (.idiv, 1) := by decide +kernel
theorem dX11_unseen_12 : decode cX11_unseen 12 = .ok (.invokevirtual 133, 3) := by decide +kernel
theorem dX11_unseen_15 : decode cX11_unseen 15 = .ok (.ifCond .eq 12, 3) := by decide +kernel
theorem dX11_unseen_18 : decode cX11_unseen 18 = .ok (.iload_n 2, 1) := by decide +kernel
theorem dX11_unseen_19 : decode cX11_unseen 19 = .ok (.iconst 0, 1) := by decide +kernel
theorem dX11_unseen_20 : decode cX11_unseen 20 = .ok (.iconst 1, 1) := by decide +kernel
theorem dX11_unseen_21 : decode cX11_unseen 21 = .ok (.invokestatic 89, 3) := by decide +kernel
theorem dX11_unseen_24 : decode cX11_unseen 24 = .ok (.ifCond .ne 6, 3) := by decide +kernel
theorem dX11_unseen_27 : decode cX11_unseen 27 = .ok (.ldc 136, 2) := by decide +kernel
theorem dX11_unseen_29 : decode cX11_unseen 29 = .ok (.ireturn, 1) := by decide +kernel
theorem dX11_unseen_30 : decode cX11_unseen 30 = .ok (.aload_n 0, 1) := by decide +kernel
theorem dX11_unseen_31 : decode cX11_unseen 31 = .ok (.getfield 60, 3) := by decide +kernel
theorem dX11_unseen_34 : decode cX11_unseen 34 = .ok (.iload_n 1, 1) := by decide +kernel
theorem dX11_unseen_35 : decode cX11_unseen 35 = .ok (.bipush 100, 2) := by decide +kernel
theorem dX11_unseen_37 : decode cX11_unseen 37 = .ok (.idiv, 1) := by decide +kernel
theorem dX11_unseen_38 : decode cX11_unseen 38 = .ok (.iload_n 1, 1) := by decide +kernel
theorem dX11_unseen_39 : decode cX11_unseen 39 = .ok (.bipush 100, 2) := by decide +kernel
theorem dX11_unseen_41 : decode cX11_unseen 41 = .ok (.irem, 1) := by decide +kernel
theorem dX11_unseen_42 : decode cX11_unseen 42 = .ok (.iload_n 2, 1) := by decide +kernel
theorem dX11_unseen_43 : decode cX11_unseen 43 = .ok (.iconst 1, 1) := by decide +kernel
theorem dX11_unseen_44 : decode cX11_unseen 44 = .ok (.if_icmp .ne 7, 3) := by decide +kernel
theorem dX11_unseen_47 : decode cX11_unseen 47 = .ok (.iconst 1, 1) := by decide +kernel
theorem dX11_unseen_48 : decode cX11_unseen 48 = .ok (.goto 4, 3) := by decide +kernel
theorem dX11_unseen_51 : decode cX11_unseen 51 = .ok (.iconst 0, 1) := by decide +kernel
theorem dX11_unseen_52 : decode cX11_unseen 52 = .ok (.invokevirtual 252, 3) := by decide +kernel
theorem dX11_unseen_55 : decode cX11_unseen 55 = .ok (.ireturn, 1) := by decide +kernel
theorem dX11_person_0 : decode cX11_person 0 = .ok (.aload_n 0, 1) := by decide +kernel
theorem dX11_person_1 : decode cX11_person 1 = .ok (.getfield 10, 3) := by decide +kernel
theorem dX11_person_4 : decode cX11_person 4 = .ok (.iload_n 1, 1) := by decide +kernel
theorem dX11_person_5 : decode cX11_person 5 = .ok (.invokevirtual 132, 3) := by decide +kernel
theorem dX11_person_8 : decode cX11_person 8 = .ok (.ifCond .eq 14, 3) := by decide +kernel
theorem dX11_person_11 : decode cX11_person 11 = .ok (.aload_n 0, 1) := by decide +kernel
theorem dX11_person_12 : decode cX11_person 12 = .ok (.getfield 60, 3) := by decide +kernel
theorem dX11_person_15 : decode cX11_person 15 = .ok (.iload_n 1, 1) := by decide +kernel
theorem dX11_person_16 : decode cX11_person 16 = .ok (.invokevirtual 256, 3) := by decide +kernel
theorem dX11_person_19 : decode cX11_person 19 = .ok (.goto 5, 3) := by decide +kernel
theorem dX11_person_22 : decode cX11_person 22 = .ok (.ldc 136, 2) := by decide +kernel
theorem dX11_person_24 : decode cX11_person 24 = .ok (.ireturn, 1) := by decide +kernel
theorem dX11_shares_0 : decode cX11_shares 0 = .ok (.iload_n 1, 1) := by decide +kernel
theorem dX11_shares_1 : decode cX11_shares 1 = .ok (.iconst 0, 1) := by decide +kernel
theorem dX11_shares_2 : decode cX11_shares 2 = .ok (.iconst 2, 1) := by decide +kernel
theorem dX11_shares_3 : decode cX11_shares 3 = .ok (.invokestatic 89, 3) := by decide +kernel
theorem dX11_shares_6 : decode cX11_shares 6 = .ok (.ifCond .eq 12, 3) := by decide +kernel
theorem dX11_shares_9 : decode cX11_shares 9 = .ok (.iload_n 3, 1) := by decide +kernel
theorem dX11_shares_10 : decode cX11_shares 10 = .ok (.iconst 0, 1) := by decide +kernel
theorem dX11_shares_11 : decode cX11_shares 11 = .ok (.iconst 2, 1) := by decide +kernel
theorem dX11_shares_12 : decode cX11_shares 12 = .ok (.invokestatic 89, 3) := by decide +kernel
theorem dX11_shares_15 : decode cX11_shares 15 = .ok (.ifCond .ne 5, 3) := by decide +kernel
theorem dX11_shares_18 : decode cX11_shares 18 = .ok (.iconst (-1), 1) := by decide +kernel
theorem dX11_shares_19 : decode cX11_shares 19 = .ok (.ireturn, 1) := by decide +kernel
theorem dX11_shares_20 : decode cX11_shares 20 = .ok (.iconst 0, 1) := by decide +kernel
theorem dX11_shares_21 : decode cX11_shares 21 = .ok (.istore 4, 2) := by decide +kernel
theorem dX11_shares_23 : decode cX11_shares 23 = .ok (.iconst 0, 1) := by decide +kernel
theorem dX11_shares_24 : decode cX11_shares 24 = .ok (.istore 5, 2) := by decide +kernel
theorem dX11_shares_26 : decode cX11_shares 26 = .ok (.iload 5, 2) := by decide +kernel
theorem dX11_shares_28 : decode cX11_shares 28 = .ok (.aload_n 0, 1) := by decide +kernel
theorem dX11_shares_29 : decode cX11_shares 29 = .ok (.getfield 10, 3) := by decide +kernel
theorem dX11_shares_32 : decode cX11_shares 32 = .ok (.getfield 181, 3) := by decide +kernel
theorem dX11_shares_35 : decode cX11_shares 35 = .ok (.if_icmp .ge 48, 3) := by decide +kernel
theorem dX11_shares_38 : decode cX11_shares 38 = .ok (.iload_n 1, 1) := by decide +kernel
theorem dX11_shares_39 : decode cX11_shares 39 = .ok (.iconst 2, 1) := by decide +kernel
theorem dX11_shares_40 : decode cX11_shares 40 = .ok (.if_icmp .eq 17, 3) := by decide +kernel
theorem dX11_shares_43 : decode cX11_shares 43 = .ok (.aload_n 0, 1) := by decide +kernel
theorem dX11_shares_44 : decode cX11_shares 44 = .ok (.getfield 10, 3) := by decide +kernel
theorem dX11_shares_47 : decode cX11_shares 47 = .ok (.getfield 207, 3) := by decide +kernel
theorem dX11_shares_50 : decode cX11_shares 50 = .ok (.iload 5, 2) := by decide +kernel
theorem dX11_shares_52 : decode cX11_shares 52 = .ok (.iaload, 1) := by decide +kernel
theorem dX11_shares_53 : decode cX11_shares 53 = .ok (.iload_n 1, 1) := by decide +kernel
theorem dX11_shares_54 : decode cX11_shares 54 = .ok (.if_icmp .ne 23, 3) := by decide +kernel
theorem dX11_shares_57 : decode cX11_shares 57 = .ok (.aload_n 0, 1) := by decide +kernel
theorem dX11_shares_58 : decode cX11_shares 58 = .ok (.getfield 60, 3) := by decide +kernel
theorem dX11_shares_61 : decode cX11_shares 61 = .ok (.iload 5, 2) := by decide +kernel
theorem dX11_shares_63 : decode cX11_shares 63 = .ok (.invokevirtual 256, 3) := by decide +kernel
theorem dX11_shares_66 : decode cX11_shares 66 = .ok (.iload_n 2, 1) := by decide +kernel
theorem dX11_shares_67 : decode cX11_shares 67 = .ok (.iload_n 3, 1) := by decide +kernel
theorem dX11_shares_68 : decode cX11_shares 68 = .ok (.invokestatic 259, 3) := by decide +kernel
theorem dX11_shares_71 : decode cX11_shares 71 = .ok (.ifCond .eq 6, 3) := by decide +kernel
theorem dX11_shares_74 : decode cX11_shares 74 = .ok (.iinc 4 1, 3) := by decide +kernel
theorem dX11_shares_77 : decode cX11_shares 77 = .ok (.iinc 5 1, 3) := by decide +kernel
theorem dX11_shares_80 : decode cX11_shares 80 = .ok (.goto (-54), 3) := by decide +kernel
theorem dX11_shares_83 : decode cX11_shares 83 = .ok (.iload 4, 2) := by decide +kernel
theorem dX11_shares_85 : decode cX11_shares 85 = .ok (.ireturn, 1) := by decide +kernel
theorem dX11_isShare_0 : decode cX11_isShare 0 = .ok (.iload_n 0, 1) := by decide +kernel
theorem dX11_isShare_1 : decode cX11_isShare 1 = .ok (.ldc 136, 2) := by decide +kernel
theorem dX11_isShare_3 : decode cX11_isShare 3 = .ok (.if_icmp .ne 5, 3) := by decide +kernel
theorem dX11_isShare_6 : decode cX11_isShare 6 = .ok (.iconst 0, 1) := by decide +kernel
theorem dX11_isShare_7 : decode cX11_isShare 7 = .ok (.ireturn, 1) := by decide +kernel
theorem dX11_isShare_8 : decode cX11_isShare 8 = .ok (.iload_n 2, 1) := by decide +kernel
theorem dX11_isShare_9 : decode cX11_isShare 9 = .ok (.ifCond .ne 16, 3) := by decide +kernel
theorem dX11_isShare_12 : decode cX11_isShare 12 = .ok (.iload_n 0, 1) := by decide +kernel
theorem dX11_isShare_13 : decode cX11_isShare 13 = .ok (.iload_n 1, 1) := by decide +kernel
theorem dX11_isShare_14 : decode cX11_isShare 14 = .ok (.if_icmp .lt 7, 3) := by decide +kernel
theorem dX11_isShare_17 : decode cX11_isShare 17 = .ok (.iconst 1, 1) := by decide +kernel
theorem dX11_isShare_18 : decode cX11_isShare 18 = .ok (.goto 21, 3) := by decide +kernel
theorem dX11_isShare_21 : decode cX11_isShare 21 = .ok (.iconst 0, 1) := by decide +kernel
theorem dX11_isShare_22 : decode cX11_isShare 22 = .ok (.goto 17, 3) := by decide +kernel
theorem dX11_isShare_25 : decode cX11_isShare 25 = .ok (.iload_n 2, 1) := by decide +kernel
theorem dX11_isShare_26 : decode cX11_isShare 26 = .ok (.iconst 2, 1) := by decide +kernel
theorem dX11_isShare_27 : decode cX11_isShare 27 = .ok (.if_icmp .eq 7, 3) := by decide +kernel
theorem dX11_isShare_30 : decode cX11_isShare 30 = .ok (.iload_n 0, 1) := by decide +kernel
theorem dX11_isShare_31 : decode cX11_isShare 31 = .ok (.ifCond .gt 7, 3) := by decide +kernel
theorem dX11_isShare_34 : decode cX11_isShare 34 = .ok (.iconst 1, 1) := by decide +kernel
theorem dX11_isShare_35 : decode cX11_isShare 35 = .ok (.goto 4, 3) := by decide +kernel
theorem dX11_isShare_38 : decode cX11_isShare 38 = .ok (.iconst 0, 1) := by decide +kernel
theorem dX11_isShare_39 : decode cX11_isShare 39 = .ok (.ireturn, 1) := by decide +kernel
theorem dX11_led_0 : decode cX11_led 0 = .ok (.bipush (-2), 2) := by decide +kernel
theorem dX11_led_2 : decode cX11_led 2 = .ok (.istore_n 1, 1) := by decide +kernel
theorem dX11_led_3 : decode cX11_led 3 = .ok (.ldc 136, 2) := by decide +kernel
theorem dX11_led_5 : decode cX11_led 5 = .ok (.istore_n 2, 1) := by decide +kernel
theorem dX11_led_6 : decode cX11_led 6 = .ok (.iconst 0, 1) := by decide +kernel
theorem dX11_led_7 : decode cX11_led 7 = .ok (.istore_n 3, 1) := by decide +kernel
theorem dX11_led_8 : decode cX11_led 8 = .ok (.iload_n 3, 1) := by decide +kernel
theorem dX11_led_9 : decode cX11_led 9 = .ok (.aload_n 0, 1) := by decide +kernel
theorem dX11_led_10 : decode cX11_led 10 = .ok (.getfield 10, 3) := by decide +kernel
theorem dX11_led_13 : decode cX11_led 13 = .ok (.getfield 181, 3) := by decide +kernel
theorem dX11_led_16 : decode cX11_led 16 = .ok (.if_icmp .ge 30, 3) := by decide +kernel
theorem dX11_led_19 : decode cX11_led 19 = .ok (.aload_n 0, 1) := by decide +kernel
theorem dX11_led_20 : decode cX11_led 20 = .ok (.getfield 60, 3) := by decide +kernel
theorem dX11_led_23 : decode cX11_led 23 = .ok (.iload_n 3, 1) := by decide +kernel
theorem dX11_led_24 : decode cX11_led 24 = .ok (.invokevirtual 256, 3) := by decide +kernel
theorem dX11_led_27 : decode cX11_led 27 = .ok (.istore 4, 2) := by decide +kernel
theorem dX11_led_29 : decode cX11_led 29 = .ok (.iload 4, 2) := by decide +kernel
theorem dX11_led_31 : decode cX11_led 31 = .ok (.iload_n 2, 1) := by decide +kernel
theorem dX11_led_32 : decode cX11_led 32 = .ok (.if_icmp .le 8, 3) := by decide +kernel
theorem dX11_led_35 : decode cX11_led 35 = .ok (.iload 4, 2) := by decide +kernel
theorem dX11_led_37 : decode cX11_led 37 = .ok (.istore_n 2, 1) := by decide +kernel
theorem dX11_led_38 : decode cX11_led 38 = .ok (.iload_n 3, 1) := by decide +kernel
theorem dX11_led_39 : decode cX11_led 39 = .ok (.istore_n 1, 1) := by decide +kernel
theorem dX11_led_40 : decode cX11_led 40 = .ok (.iinc 3 1, 3) := by decide +kernel
theorem dX11_led_43 : decode cX11_led 43 = .ok (.goto (-35), 3) := by decide +kernel
theorem dX11_led_46 : decode cX11_led 46 = .ok (.iload_n 1, 1) := by decide +kernel
theorem dX11_led_47 : decode cX11_led 47 = .ok (.ireturn, 1) := by decide +kernel
theorem dX11_point_0 : decode cX11_point 0 = .ok (.iload_n 1, 1) := by decide +kernel
theorem dX11_point_1 : decode cX11_point 1 = .ok (.iconst 0, 1) := by decide +kernel
theorem dX11_point_2 : decode cX11_point 2 = .ok (.bipush 99, 2) := by decide +kernel
theorem dX11_point_4 : decode cX11_point 4 = .ok (.invokestatic 89, 3) := by decide +kernel
theorem dX11_point_7 : decode cX11_point 7 = .ok (.ifCond .eq 24, 3) := by decide +kernel
theorem dX11_point_10 : decode cX11_point 10 = .ok (.iload_n 2, 1) := by decide +kernel
theorem dX11_point_11 : decode cX11_point 11 = .ok (.iconst 0, 1) := by decide +kernel
theorem dX11_point_12 : decode cX11_point 12 = .ok (.bipush 99, 2) := by decide +kernel
theorem dX11_point_14 : decode cX11_point 14 = .ok (.invokestatic 89, 3) := by decide +kernel
theorem dX11_point_17 : decode cX11_point 17 = .ok (.ifCond .eq 14, 3) := by decide +kernel
theorem dX11_point_20 : decode cX11_point 20 = .ok (.aload_n 0, 1) := by decide +kernel
theorem dX11_point_21 : decode cX11_point 21 = .ok (.getfield 67, 3) := by decide +kernel
theorem dX11_point_24 : decode cX11_point 24 = .ok (.iload_n 1, 1) := by decide +kernel
theorem dX11_point_25 : decode cX11_point 25 = .ok (.invokevirtual 262, 3) := by decide +kernel
theorem dX11_point_28 : decode cX11_point 28 = .ok (.ifCond .ne 5, 3) := by decide +kernel
theorem dX11_point_31 : decode cX11_point 31 = .ok (.iconst (-1), 1) := by decide +kernel
theorem dX11_point_32 : decode cX11_point 32 = .ok (.ireturn, 1) := by decide +kernel
theorem dX11_point_33 : decode cX11_point 33 = .ok (.aload_n 0, 1) := by decide +kernel
theorem dX11_point_34 : decode cX11_point 34 = .ok (.getfield 67, 3) := by decide +kernel
theorem dX11_point_37 : decode cX11_point 37 = .ok (.iload_n 1, 1) := by decide +kernel
theorem dX11_point_38 : decode cX11_point 38 = .ok (.iload_n 2, 1) := by decide +kernel
theorem dX11_point_39 : decode cX11_point 39 = .ok (.invokevirtual 265, 3) := by decide +kernel
theorem dX11_point_42 : decode cX11_point 42 = .ok (.ireturn, 1) := by decide +kernel
theorem dX11_belt_0 : decode cX11_belt 0 = .ok (.iload_n 1, 1) := by decide +kernel
theorem dX11_belt_1 : decode cX11_belt 1 = .ok (.iconst (-1), 1) := by decide +kernel
theorem dX11_belt_2 : decode cX11_belt 2 = .ok (.if_icmp .eq 14, 3) := by decide +kernel
theorem dX11_belt_5 : decode cX11_belt 5 = .ok (.aload_n 0, 1) := by decide +kernel
theorem dX11_belt_6 : decode cX11_belt 6 = .ok (.getfield 10, 3) := by decide +kernel
theorem dX11_belt_9 : decode cX11_belt 9 = .ok (.iload_n 1, 1) := by decide +kernel
theorem dX11_belt_10 : decode cX11_belt 10 = .ok (.invokevirtual 132, 3) := by decide +kernel
theorem dX11_belt_13 : decode cX11_belt 13 = .ok (.ifCond .eq 13, 3) := by decide +kernel
theorem dX11_belt_16 : decode cX11_belt 16 = .ok (.iload_n 2, 1) := by decide +kernel
theorem dX11_belt_17 : decode cX11_belt 17 = .ok (.iconst 0, 1) := by decide +kernel
theorem dX11_belt_18 : decode cX11_belt 18 = .ok (.bipush 99, 2) := by decide +kernel
theorem dX11_belt_20 : decode cX11_belt 20 = .ok (.invokestatic 89, 3) := by decide +kernel
theorem dX11_belt_23 : decode cX11_belt 23 = .ok (.ifCond .ne 5, 3) := by decide +kernel
theorem dX11_belt_26 : decode cX11_belt 26 = .ok (.iconst (-1), 1) := by decide +kernel
theorem dX11_belt_27 : decode cX11_belt 27 = .ok (.ireturn, 1) := by decide +kernel
theorem dX11_belt_28 : decode cX11_belt 28 = .ok (.aload_n 0, 1) := by decide +kernel
theorem dX11_belt_29 : decode cX11_belt 29 = .ok (.getfield 67, 3) := by decide +kernel
theorem dX11_belt_32 : decode cX11_belt 32 = .ok (.getfield 267, 3) := by decide +kernel
theorem dX11_belt_35 : decode cX11_belt 35 = .ok (.ifCond .ne 6, 3) := by decide +kernel
theorem dX11_belt_38 : decode cX11_belt 38 = .ok (.bipush (-5), 2) := by decide +kernel
theorem dX11_belt_40 : decode cX11_belt 40 = .ok (.ireturn, 1) := by decide +kernel
theorem dX11_belt_41 : decode cX11_belt 41 = .ok (.aload_n 0, 1) := by decide +kernel
theorem dX11_belt_42 : decode cX11_belt 42 = .ok (.getfield 67, 3) := by decide +kernel
theorem dX11_belt_45 : decode cX11_belt 45 = .ok (.iload_n 2, 1) := by decide +kernel
theorem dX11_belt_46 : decode cX11_belt 46 = .ok (.invokevirtual 268, 3) := by decide +kernel
theorem dX11_belt_49 : decode cX11_belt 49 = .ok (.istore_n 3, 1) := by decide +kernel
theorem dX11_belt_50 : decode cX11_belt 50 = .ok (.iload_n 1, 1) := by decide +kernel
theorem dX11_belt_51 : decode cX11_belt 51 = .ok (.iconst (-1), 1) := by decide +kernel
theorem dX11_belt_52 : decode cX11_belt 52 = .ok (.if_icmp .ne 7, 3) := by decide +kernel
theorem dX11_belt_55 : decode cX11_belt 55 = .ok (.iload_n 3, 1) := by decide +kernel
theorem dX11_belt_56 : decode cX11_belt 56 = .ok (.goto 18, 3) := by decide +kernel
theorem dX11_belt_59 : decode cX11_belt 59 = .ok (.aload_n 0, 1) := by decide +kernel
theorem dX11_belt_60 : decode cX11_belt 60 = .ok (.getfield 10, 3) := by decide +kernel
theorem dX11_belt_63 : decode cX11_belt 63 = .ok (.getfield 271, 3) := by decide +kernel
theorem dX11_belt_66 : decode cX11_belt 66 = .ok (.iload_n 1, 1) := by decide +kernel
theorem dX11_belt_67 : decode cX11_belt 67 = .ok (.iaload, 1) := by decide +kernel
theorem dX11_belt_68 : decode cX11_belt 68 = .ok (.iload_n 3, 1) := by decide +kernel
theorem dX11_belt_69 : decode cX11_belt 69 = .ok (.imul, 1) := by decide +kernel
theorem dX11_belt_70 : decode cX11_belt 70 = .ok (.sipush 1000, 3) := by decide +kernel
theorem dX11_belt_73 : decode cX11_belt 73 = .ok (.idiv, 1) := by decide +kernel
theorem dX11_belt_74 : decode cX11_belt 74 = .ok (.ireturn, 1) := by decide +kernel
theorem dX11_records_0 : decode cX11_records 0 = .ok (.aload_n 0, 1) := by decide +kernel
theorem dX11_records_1 : decode cX11_records 1 = .ok (.getfield 26, 3) := by decide +kernel
theorem dX11_records_4 : decode cX11_records 4 = .ok (.iload_n 1, 1) := by decide +kernel
theorem dX11_records_5 : decode cX11_records 5 = .ok (.invokevirtual 133, 3) := by decide +kernel
theorem dX11_records_8 : decode cX11_records 8 = .ok (.ifCond .eq 18, 3) := by decide +kernel
theorem dX11_records_11 : decode cX11_records 11 = .ok (.iload_n 2, 1) := by decide +kernel
theorem dX11_records_12 : decode cX11_records 12 = .ok (.iconst 0, 1) := by decide +kernel
theorem dX11_records_13 : decode cX11_records 13 = .ok (.bipush 99, 2) := by decide +kernel
theorem dX11_records_15 : decode cX11_records 15 = .ok (.invokestatic 89, 3) := by decide +kernel
theorem dX11_records_18 : decode cX11_records 18 = .ok (.ifCond .eq 8, 3) := by decide +kernel
theorem dX11_records_21 : decode cX11_records 21 = .ok (.iload_n 3, 1) := by decide +kernel
theorem dX11_records_22 : decode cX11_records 22 = .ok (.iconst (-1), 1) := by decide +kernel
theorem dX11_records_23 : decode cX11_records 23 = .ok (.if_icmp .ge 5, 3) := by decide +kernel
theorem dX11_records_26 : decode cX11_records 26 = .ok (.iconst (-1), 1) := by decide +kernel
theorem dX11_records_27 : decode cX11_records 27 = .ok (.ireturn, 1) := by decide +kernel
theorem dX11_records_28 : decode cX11_records 28 = .ok (.aload_n 0, 1) := by decide +kernel
theorem dX11_records_29 : decode cX11_records 29 = .ok (.getfield 35, 3) := by decide +kernel
theorem dX11_records_32 : decode cX11_records 32 = .ok (.iload_n 1, 1) := by decide +kernel
theorem dX11_records_33 : decode cX11_records 33 = .ok (.iload_n 2, 1) := by decide +kernel
theorem dX11_records_34 : decode cX11_records 34 = .ok (.iload_n 3, 1) := by decide +kernel
theorem dX11_records_35 : decode cX11_records 35 = .ok (.invokevirtual 274, 3) := by decide +kernel
theorem dX11_records_38 : decode cX11_records 38 = .ok (.ireturn, 1) := by decide +kernel
theorem dX11_best_0 : decode cX11_best 0 = .ok (.aload_n 0, 1) := by decide +kernel
theorem dX11_best_1 : decode cX11_best 1 = .ok (.getfield 26, 3) := by decide +kernel
theorem dX11_best_4 : decode cX11_best 4 = .ok (.iload_n 1, 1) := by decide +kernel
theorem dX11_best_5 : decode cX11_best 5 = .ok (.invokevirtual 133, 3) := by decide +kernel
theorem dX11_best_8 : decode cX11_best 8 = .ok (.ifCond .eq 22, 3) := by decide +kernel
theorem dX11_best_11 : decode cX11_best 11 = .ok (.iload_n 2, 1) := by decide +kernel
theorem dX11_best_12 : decode cX11_best 12 = .ok (.iconst 0, 1) := by decide +kernel
theorem dX11_best_13 : decode cX11_best 13 = .ok (.bipush 99, 2) := by decide +kernel
theorem dX11_best_15 : decode cX11_best 15 = .ok (.invokestatic 89, 3) := by decide +kernel
theorem dX11_best_18 : decode cX11_best 18 = .ok (.ifCond .eq 12, 3) := by decide +kernel
theorem dX11_best_21 : decode cX11_best 21 = .ok (.iload_n 3, 1) := by decide +kernel
theorem dX11_best_22 : decode cX11_best 22 = .ok (.iconst 0, 1) := by decide +kernel
theorem dX11_best_23 : decode cX11_best 23 = .ok (.iconst 1, 1) := by decide +kernel
theorem dX11_best_24 : decode cX11_best 24 = .ok (.invokestatic 89, 3) := by decide +kernel
theorem dX11_best_27 : decode cX11_best 27 = .ok (.ifCond .ne 5, 3) := by decide +kernel
theorem dX11_best_30 : decode cX11_best 30 = .ok (.iconst (-1), 1) := by decide +kernel
theorem dX11_best_31 : decode cX11_best 31 = .ok (.ireturn, 1) := by decide +kernel
theorem dX11_best_32 : decode cX11_best 32 = .ok (.aload_n 0, 1) := by decide +kernel
theorem dX11_best_33 : decode cX11_best 33 = .ok (.getfield 35, 3) := by decide +kernel
theorem dX11_best_36 : decode cX11_best 36 = .ok (.iload_n 1, 1) := by decide +kernel
theorem dX11_best_37 : decode cX11_best 37 = .ok (.invokevirtual 277, 3) := by decide +kernel
theorem dX11_best_40 : decode cX11_best 40 = .ok (.istore 4, 2) := by decide +kernel
theorem dX11_best_42 : decode cX11_best 42 = .ok (.aload_n 0, 1) := by decide +kernel
theorem dX11_best_43 : decode cX11_best 43 = .ok (.getfield 35, 3) := by decide +kernel
theorem dX11_best_46 : decode cX11_best 46 = .ok (.iload 4, 2) := by decide +kernel
theorem dX11_best_48 : decode cX11_best 48 = .ok (.invokevirtual 135, 3) := by decide +kernel
theorem dX11_best_51 : decode cX11_best 51 = .ok (.ifCond .ne 6, 3) := by decide +kernel
theorem dX11_best_54 : decode cX11_best 54 = .ok (.bipush (-2), 2) := by decide +kernel
theorem dX11_best_56 : decode cX11_best 56 = .ok (.ireturn, 1) := by decide +kernel
theorem dX11_best_57 : decode cX11_best 57 = .ok (.iload_n 3, 1) := by decide +kernel
theorem dX11_best_58 : decode cX11_best 58 = .ok (.ifCond .ne 8, 3) := by decide +kernel
theorem dX11_best_61 : decode cX11_best 61 = .ok (.iload 4, 2) := by decide +kernel
theorem dX11_best_63 : decode cX11_best 63 = .ok (.goto 15, 3) := by decide +kernel
theorem dX11_best_66 : decode cX11_best 66 = .ok (.iload_n 2, 1) := by decide +kernel
theorem dX11_best_67 : decode cX11_best 67 = .ok (.aload_n 0, 1) := by decide +kernel
theorem dX11_best_68 : decode cX11_best 68 = .ok (.getfield 35, 3) := by decide +kernel
theorem dX11_best_71 : decode cX11_best 71 = .ok (.getfield 141, 3) := by decide +kernel
theorem dX11_best_74 : decode cX11_best 74 = .ok (.iload 4, 2) := by decide +kernel
theorem dX11_best_76 : decode cX11_best 76 = .ok (.iaload, 1) := by decide +kernel
theorem dX11_best_77 : decode cX11_best 77 = .ok (.isub, 1) := by decide +kernel
theorem dX11_best_78 : decode cX11_best 78 = .ok (.ireturn, 1) := by decide +kernel
theorem dX11_rule_0 : decode cX11_rule 0 = .ok (.iload_n 1, 1) := by decide +kernel
theorem dX11_rule_1 : decode cX11_rule 1 = .ok (.iconst 0, 1) := by decide +kernel
theorem dX11_rule_2 : decode cX11_rule 2 = .ok (.bipush 99, 2) := by decide +kernel
theorem dX11_rule_4 : decode cX11_rule 4 = .ok (.invokestatic 89, 3) := by decide +kernel
theorem dX11_rule_7 : decode cX11_rule 7 = .ok (.ifCond .eq 14, 3) := by decide +kernel
theorem dX11_rule_10 : decode cX11_rule 10 = .ok (.aload_n 0, 1) := by decide +kernel
theorem dX11_rule_11 : decode cX11_rule 11 = .ok (.getfield 35, 3) := by decide +kernel
theorem dX11_rule_14 : decode cX11_rule 14 = .ok (.iload_n 1, 1) := by decide +kernel
theorem dX11_rule_15 : decode cX11_rule 15 = .ok (.invokevirtual 280, 3) := by decide +kernel
theorem dX11_rule_18 : decode cX11_rule 18 = .ok (.goto 4, 3) := by decide +kernel
theorem dX11_rule_21 : decode cX11_rule 21 = .ok (.iconst (-1), 1) := by decide +kernel
theorem dX11_rule_22 : decode cX11_rule 22 = .ok (.ireturn, 1) := by decide +kernel
theorem dX11_dead_0 : decode cX11_dead 0 = .ok (.aload_n 0, 1) := by decide +kernel
theorem dX11_dead_1 : decode cX11_dead 1 = .ok (.getfield 19, 3) := by decide +kernel
theorem dX11_dead_4 : decode cX11_dead 4 = .ok (.iload_n 1, 1) := by decide +kernel
theorem dX11_dead_5 : decode cX11_dead 5 = .ok (.invokevirtual 134, 3) := by decide +kernel
theorem dX11_dead_8 : decode cX11_dead 8 = .ok (.ifCond .eq 13, 3) := by decide +kernel
theorem dX11_dead_11 : decode cX11_dead 11 = .ok (.iload_n 2, 1) := by decide +kernel
theorem dX11_dead_12 : decode cX11_dead 12 = .ok (.iconst 0, 1) := by decide +kernel
theorem dX11_dead_13 : decode cX11_dead 13 = .ok (.bipush 99, 2) := by decide +kernel
theorem dX11_dead_15 : decode cX11_dead 15 = .ok (.invokestatic 89, 3) := by decide +kernel
theorem dX11_dead_18 : decode cX11_dead 18 = .ok (.ifCond .ne 6, 3) := by decide +kernel
theorem dX11_dead_21 : decode cX11_dead 21 = .ok (.ldc 136, 2) := by decide +kernel
theorem dX11_dead_23 : decode cX11_dead 23 = .ok (.ireturn, 1) := by decide +kernel
theorem dX11_dead_24 : decode cX11_dead 24 = .ok (.iload_n 2, 1) := by decide +kernel
theorem dX11_dead_25 : decode cX11_dead 25 = .ok (.bipush 10, 2) := by decide +kernel
theorem dX11_dead_27 : decode cX11_dead 27 = .ok (.if_icmp .lt 7, 3) := by decide +kernel
theorem dX11_dead_30 : decode cX11_dead 30 = .ok (.iconst 0, 1) := by decide +kernel
theorem dX11_dead_31 : decode cX11_dead 31 = .ok (.goto 20, 3) := by decide +kernel
theorem dX11_dead_34 : decode cX11_dead 34 = .ok (.aload_n 0, 1) := by decide +kernel
theorem dX11_dead_35 : decode cX11_dead 35 = .ok (.getfield 19, 3) := by decide +kernel
theorem dX11_dead_38 : decode cX11_dead 38 = .ok (.getfield 191, 3) := by decide +kernel
theorem dX11_dead_41 : decode cX11_dead 41 = .ok (.iload_n 1, 1) := by decide +kernel
theorem dX11_dead_42 : decode cX11_dead 42 = .ok (.iaload, 1) := by decide +kernel
theorem dX11_dead_43 : decode cX11_dead 43 = .ok (.bipush 10, 2) := by decide +kernel
theorem dX11_dead_45 : decode cX11_dead 45 = .ok (.iload_n 2, 1) := by decide +kernel
theorem dX11_dead_46 : decode cX11_dead 46 = .ok (.isub, 1) := by decide +kernel
theorem dX11_dead_47 : decode cX11_dead 47 = .ok (.imul, 1) := by decide +kernel
theorem dX11_dead_48 : decode cX11_dead 48 = .ok (.bipush 10, 2) := by decide +kernel
theorem dX11_dead_50 : decode cX11_dead 50 = .ok (.idiv, 1) := by decide +kernel
theorem dX11_dead_51 : decode cX11_dead 51 = .ok (.ireturn, 1) := by decide +kernel
theorem dX11_needed_0 : decode cX11_needed 0 = .ok (.aload_n 0, 1) := by decide +kernel
theorem dX11_needed_1 : decode cX11_needed 1 = .ok (.getfield 19, 3) := by decide +kernel
theorem dX11_needed_4 : decode cX11_needed 4 = .ok (.iload_n 1, 1) := by decide +kernel
theorem dX11_needed_5 : decode cX11_needed 5 = .ok (.invokevirtual 134, 3) := by decide +kernel
theorem dX11_needed_8 : decode cX11_needed 8 = .ok (.ifCond .ne 5, 3) := by decide +kernel
theorem dX11_needed_11 : decode cX11_needed 11 = .ok (.iconst (-1), 1) := by decide +kernel
theorem dX11_needed_12 : decode cX11_needed 12 = .ok (.ireturn, 1) := by decide +kernel
theorem dX11_needed_13 : decode cX11_needed 13 = .ok (.aload_n 0, 1) := by decide +kernel
theorem dX11_needed_14 : decode cX11_needed 14 = .ok (.getfield 19, 3) := by decide +kernel
theorem dX11_needed_17 : decode cX11_needed 17 = .ok (.getfield 191, 3) := by decide +kernel
theorem dX11_needed_20 : decode cX11_needed 20 = .ok (.iload_n 1, 1) := by decide +kernel
theorem dX11_needed_21 : decode cX11_needed 21 = .ok (.iaload, 1) := by decide +kernel
theorem dX11_needed_22 : decode cX11_needed 22 = .ok (.i2l, 1) := by decide +kernel
theorem dX11_needed_23 : decode cX11_needed 23 = .ok (.lstore_n 2, 1) := by decide +kernel
theorem dX11_needed_24 : decode cX11_needed 24 = .ok (.aload_n 0, 1) := by decide +kernel
theorem dX11_needed_25 : decode cX11_needed 25 = .ok (.getfield 60, 3) := by decide +kernel
theorem dX11_needed_28 : decode cX11_needed 28 = .ok (.invokevirtual 230, 3) := by decide +kernel
theorem dX11_needed_31 : decode cX11_needed 31 = .ok (.lload_n 2, 1) := by decide +kernel
theorem dX11_needed_32 : decode cX11_needed 32 = .ok (.lconst 0, 1) := by decide +kernel
theorem dX11_needed_33 : decode cX11_needed 33 = .ok (.lcmp, 1) := by decide +kernel
theorem dX11_needed_34 : decode cX11_needed 34 = .ok (.ifCond .eq 15, 3) := by decide +kernel
theorem dX11_needed_37 : decode cX11_needed 37 = .ok (.aload_n 0, 1) := by decide +kernel
theorem dX11_needed_38 : decode cX11_needed 38 = .ok (.getfield 60, 3) := by decide +kernel
theorem dX11_needed_41 : decode cX11_needed 41 = .ok (.getfield 236, 3) := by decide +kernel
theorem dX11_needed_44 : decode cX11_needed 44 = .ok (.iconst 2, 1) := by decide +kernel
theorem dX11_needed_45 : decode cX11_needed 45 = .ok (.iaload, 1) := by decide +kernel
theorem dX11_needed_46 : decode cX11_needed 46 = .ok (.ifCond .ne 6, 3) := by decide +kernel
theorem dX11_needed_49 : decode cX11_needed 49 = .ok (.bipush (-2), 2) := by decide +kernel
theorem dX11_needed_51 : decode cX11_needed 51 = .ok (.ireturn, 1) := by decide +kernel
theorem dX11_needed_52 : decode cX11_needed 52 = .ok (.ldc2_w 283, 3) := by decide +kernel
theorem dX11_needed_55 : decode cX11_needed 55 = .ok (.aload_n 0, 1) := by decide +kernel
theorem dX11_needed_56 : decode cX11_needed 56 = .ok (.getfield 60, 3) := by decide +kernel
theorem dX11_needed_59 : decode cX11_needed 59 = .ok (.invokevirtual 285, 3) := by decide +kernel
theorem dX11_needed_62 : decode cX11_needed 62 = .ok (.lmul, 1) := by decide +kernel
theorem dX11_needed_63 : decode cX11_needed 63 = .ok (.lload_n 2, 1) := by decide +kernel
theorem dX11_needed_64 : decode cX11_needed 64 = .ok (.lload_n 2, 1) := by decide +kernel
theorem dX11_needed_65 : decode cX11_needed 65 = .ok (.lmul, 1) := by decide +kernel
theorem dX11_needed_66 : decode cX11_needed 66 = .ok (.ldiv, 1) := by decide +kernel
theorem dX11_needed_67 : decode cX11_needed 67 = .ok (.lconst 1, 1) := by decide +kernel
theorem dX11_needed_68 : decode cX11_needed 68 = .ok (.ladd, 1) := by decide +kernel
theorem dX11_needed_69 : decode cX11_needed 69 = .ok (.lstore 4, 2) := by decide +kernel
theorem dX11_needed_71 : decode cX11_needed 71 = .ok (.lload 4, 2) := by decide +kernel
theorem dX11_needed_73 : decode cX11_needed 73 = .ok (.ldc2_w 289, 3) := by decide +kernel
theorem dX11_needed_76 : decode cX11_needed 76 = .ok (.lcmp, 1) := by decide +kernel
theorem dX11_needed_77 : decode cX11_needed 77 = .ok (.ifCond .le 8, 3) := by decide +kernel
theorem dX11_needed_80 : decode cX11_needed 80 = .ok (.bipush (-2), 2) := by decide +kernel
theorem dX11_needed_82 : decode cX11_needed 82 = .ok (.goto 6, 3) := by decide +kernel
theorem dX11_needed_85 : decode cX11_needed 85 = .ok (.lload 4, 2) := by decide +kernel
theorem dX11_needed_87 : decode cX11_needed 87 = .ok (.l2i, 1) := by decide +kernel
theorem dX11_needed_88 : decode cX11_needed 88 = .ok (.ireturn, 1) := by decide +kernel
theorem dX11_undo_0 : decode cX11_undo 0 = .ok (.aload_n 0, 1) := by decide +kernel
theorem dX11_undo_1 : decode cX11_undo 1 = .ok (.getfield 44, 3) := by decide +kernel
theorem dX11_undo_4 : decode cX11_undo 4 = .ok (.invokevirtual 291, 3) := by decide +kernel
theorem dX11_undo_7 : decode cX11_undo 7 = .ok (.ireturn, 1) := by decide +kernel
theorem dX11_redo_0 : decode cX11_redo 0 = .ok (.aload_n 0, 1) := by decide +kernel
theorem dX11_redo_1 : decode cX11_redo 1 = .ok (.getfield 44, 3) := by decide +kernel
theorem dX11_redo_4 : decode cX11_redo 4 = .ok (.invokevirtual 294, 3) := by decide +kernel
theorem dX11_redo_7 : decode cX11_redo 7 = .ok (.ireturn, 1) := by decide +kernel
theorem dX11_body_0 : decode cX11_body 0 = .ok (.iload_n 1, 1) := by decide +kernel
theorem dX11_body_1 : decode cX11_body 1 = .ok (.iconst 0, 1) := by decide +kernel
theorem dX11_body_2 : decode cX11_body 2 = .ok (.bipush 7, 2) := by decide +kernel
theorem dX11_body_4 : decode cX11_body 4 = .ok (.invokestatic 89, 3) := by decide +kernel
theorem dX11_body_7 : decode cX11_body 7 = .ok (.ifCond .ne 5, 3) := by decide +kernel
theorem dX11_body_10 : decode cX11_body 10 = .ok (.iconst (-1), 1) := by decide +kernel
theorem dX11_body_11 : decode cX11_body 11 = .ok (.ireturn, 1) := by decide +kernel
theorem dX11_body_12 : decode cX11_body 12 = .ok (.aload_n 0, 1) := by decide +kernel
theorem dX11_body_13 : decode cX11_body 13 = .ok (.getfield 74, 3) := by decide +kernel
theorem dX11_body_16 : decode cX11_body 16 = .ok (.iload_n 1, 1) := by decide +kernel
theorem dX11_body_17 : decode cX11_body 17 = .ok (.invokevirtual 297, 3) := by decide +kernel
theorem dX11_body_20 : decode cX11_body 20 = .ok (.ireturn, 1) := by decide +kernel
theorem dX11_act_0 : decode cX11_act 0 = .ok (.aload_n 0, 1) := by decide +kernel
theorem dX11_act_1 : decode cX11_act 1 = .ok (.getfield 74, 3) := by decide +kernel
theorem dX11_act_4 : decode cX11_act 4 = .ok (.iconst 0, 1) := by decide +kernel
theorem dX11_act_5 : decode cX11_act 5 = .ok (.putfield 298, 3) := by decide +kernel
theorem dX11_act_8 : decode cX11_act 8 = .ok (.aload_n 0, 1) := by decide +kernel
theorem dX11_act_9 : decode cX11_act 9 = .ok (.getfield 74, 3) := by decide +kernel
theorem dX11_act_12 : decode cX11_act 12 = .ok (.iload_n 1, 1) := by decide +kernel
theorem dX11_act_13 : decode cX11_act 13 = .ok (.invokevirtual 301, 3) := by decide +kernel
theorem dX11_act_16 : decode cX11_act 16 = .ok (.ifCond .eq 12, 3) := by decide +kernel
theorem dX11_act_19 : decode cX11_act 19 = .ok (.iload_n 2, 1) := by decide +kernel
theorem dX11_act_20 : decode cX11_act 20 = .ok (.iconst 0, 1) := by decide +kernel
theorem dX11_act_21 : decode cX11_act 21 = .ok (.iconst 3, 1) := by decide +kernel
theorem dX11_act_22 : decode cX11_act 22 = .ok (.invokestatic 89, 3) := by decide +kernel
theorem dX11_act_25 : decode cX11_act 25 = .ok (.ifCond .ne 5, 3) := by decide +kernel
theorem dX11_act_28 : decode cX11_act 28 = .ok (.iconst 0, 1) := by decide +kernel
theorem dX11_act_29 : decode cX11_act 29 = .ok (.ireturn, 1) := by decide +kernel
theorem dX11_act_30 : decode cX11_act 30 = .ok (.aload_n 0, 1) := by decide +kernel
theorem dX11_act_31 : decode cX11_act 31 = .ok (.getfield 74, 3) := by decide +kernel
theorem dX11_act_34 : decode cX11_act 34 = .ok (.iload_n 1, 1) := by decide +kernel
theorem dX11_act_35 : decode cX11_act 35 = .ok (.iload_n 2, 1) := by decide +kernel
theorem dX11_act_36 : decode cX11_act 36 = .ok (.iload_n 3, 1) := by decide +kernel
theorem dX11_act_37 : decode cX11_act 37 = .ok (.invokevirtual 302, 3) := by decide +kernel
theorem dX11_act_40 : decode cX11_act 40 = .ok (.ireturn, 1) := by decide +kernel
theorem dX11_trace_0 : decode cX11_trace 0 = .ok (.iload_n 1, 1) := by decide +kernel
theorem dX11_trace_1 : decode cX11_trace 1 = .ok (.iconst 0, 1) := by decide +kernel
theorem dX11_trace_2 : decode cX11_trace 2 = .ok (.aload_n 0, 1) := by decide +kernel
theorem dX11_trace_3 : decode cX11_trace 3 = .ok (.getfield 74, 3) := by decide +kernel
theorem dX11_trace_6 : decode cX11_trace 6 = .ok (.getfield 298, 3) := by decide +kernel
theorem dX11_trace_9 : decode cX11_trace 9 = .ok (.bipush 24, 2) := by decide +kernel
theorem dX11_trace_11 : decode cX11_trace 11 = .ok (.invokestatic 222, 3) := by decide +kernel
theorem dX11_trace_14 : decode cX11_trace 14 = .ok (.iconst 1, 1) := by decide +kernel
theorem dX11_trace_15 : decode cX11_trace 15 = .ok (.isub, 1) := by decide +kernel
theorem dX11_trace_16 : decode cX11_trace 16 = .ok (.invokestatic 89, 3) := by decide +kernel
theorem dX11_trace_19 : decode cX11_trace 19 = .ok (.ifCond .eq 15, 3) := by decide +kernel
theorem dX11_trace_22 : decode cX11_trace 22 = .ok (.aload_n 0, 1) := by decide +kernel
theorem dX11_trace_23 : decode cX11_trace 23 = .ok (.getfield 74, 3) := by decide +kernel
theorem dX11_trace_26 : decode cX11_trace 26 = .ok (.getfield 305, 3) := by decide +kernel
theorem dX11_trace_29 : decode cX11_trace 29 = .ok (.iload_n 1, 1) := by decide +kernel
theorem dX11_trace_30 : decode cX11_trace 30 = .ok (.iaload, 1) := by decide +kernel
theorem dX11_trace_31 : decode cX11_trace 31 = .ok (.goto 4, 3) := by decide +kernel
theorem dX11_trace_34 : decode cX11_trace 34 = .ok (.iconst (-1), 1) := by decide +kernel
theorem dX11_trace_35 : decode cX11_trace 35 = .ok (.ireturn, 1) := by decide +kernel
theorem dX11_keep_0 : decode cX11_keep 0 = .ok (.aload_n 0, 1) := by decide +kernel
theorem dX11_keep_1 : decode cX11_keep 1 = .ok (.getfield 81, 3) := by decide +kernel
theorem dX11_keep_4 : decode cX11_keep 4 = .ok (.iload_n 1, 1) := by decide +kernel
theorem dX11_keep_5 : decode cX11_keep 5 = .ok (.invokevirtual 111, 3) := by decide +kernel
theorem dX11_keep_8 : decode cX11_keep 8 = .ok (.ifCond .eq 19, 3) := by decide +kernel
theorem dX11_keep_11 : decode cX11_keep 11 = .ok (.iload_n 2, 1) := by decide +kernel
theorem dX11_keep_12 : decode cX11_keep 12 = .ok (.iconst (-1), 1) := by decide +kernel
theorem dX11_keep_13 : decode cX11_keep 13 = .ok (.if_icmp .eq 16, 3) := by decide +kernel
theorem dX11_keep_16 : decode cX11_keep 16 = .ok (.aload_n 0, 1) := by decide +kernel
theorem dX11_keep_17 : decode cX11_keep 17 = .ok (.getfield 74, 3) := by decide +kernel
theorem dX11_keep_20 : decode cX11_keep 20 = .ok (.iload_n 2, 1) := by decide +kernel
theorem dX11_keep_21 : decode cX11_keep 21 = .ok (.invokevirtual 301, 3) := by decide +kernel
theorem dX11_keep_24 : decode cX11_keep 24 = .ok (.ifCond .ne 5, 3) := by decide +kernel
theorem dX11_keep_27 : decode cX11_keep 27 = .ok (.iconst (-1), 1) := by decide +kernel
theorem dX11_keep_28 : decode cX11_keep 28 = .ok (.ireturn, 1) := by decide +kernel
theorem dX11_keep_29 : decode cX11_keep 29 = .ok (.aload_n 0, 1) := by decide +kernel
theorem dX11_keep_30 : decode cX11_keep 30 = .ok (.getfield 81, 3) := by decide +kernel
theorem dX11_keep_33 : decode cX11_keep 33 = .ok (.iload_n 1, 1) := by decide +kernel
theorem dX11_keep_34 : decode cX11_keep 34 = .ok (.iload_n 2, 1) := by decide +kernel
theorem dX11_keep_35 : decode cX11_keep 35 = .ok (.invokevirtual 308, 3) := by decide +kernel
theorem dX11_keep_38 : decode cX11_keep 38 = .ok (.iconst 1, 1) := by decide +kernel
theorem dX11_keep_39 : decode cX11_keep 39 = .ok (.ireturn, 1) := by decide +kernel
theorem dX11_row_0 : decode cX11_row 0 = .ok (.aload_n 0, 1) := by decide +kernel
theorem dX11_row_1 : decode cX11_row 1 = .ok (.getfield 81, 3) := by decide +kernel
theorem dX11_row_4 : decode cX11_row 4 = .ok (.iload_n 1, 1) := by decide +kernel
theorem dX11_row_5 : decode cX11_row 5 = .ok (.invokevirtual 111, 3) := by decide +kernel
theorem dX11_row_8 : decode cX11_row 8 = .ok (.ifCond .eq 18, 3) := by decide +kernel
theorem dX11_row_11 : decode cX11_row 11 = .ok (.iload_n 2, 1) := by decide +kernel
theorem dX11_row_12 : decode cX11_row 12 = .ok (.iconst 0, 1) := by decide +kernel
theorem dX11_row_13 : decode cX11_row 13 = .ok (.iconst 4, 1) := by decide +kernel
theorem dX11_row_14 : decode cX11_row 14 = .ok (.invokestatic 89, 3) := by decide +kernel
theorem dX11_row_17 : decode cX11_row 17 = .ok (.ifCond .eq 9, 3) := by decide +kernel
theorem dX11_row_20 : decode cX11_row 20 = .ok (.iload_n 3, 1) := by decide +kernel
theorem dX11_row_21 : decode cX11_row 21 = .ok (.bipush 60, 2) := by decide +kernel
theorem dX11_row_23 : decode cX11_row 23 = .ok (.if_icmp .le 5, 3) := by decide +kernel
theorem dX11_row_26 : decode cX11_row 26 = .ok (.iconst (-1), 1) := by decide +kernel
theorem dX11_row_27 : decode cX11_row 27 = .ok (.ireturn, 1) := by decide +kernel
theorem dX11_row_28 : decode cX11_row 28 = .ok (.iload_n 3, 1) := by decide +kernel
theorem dX11_row_29 : decode cX11_row 29 = .ok (.ifCond .ge 6, 3) := by decide +kernel
theorem dX11_row_32 : decode cX11_row 32 = .ok (.bipush (-14), 2) := by decide +kernel
theorem dX11_row_34 : decode cX11_row 34 = .ok (.ireturn, 1) := by decide +kernel
theorem dX11_row_35 : decode cX11_row 35 = .ok (.aload_n 0, 1) := by decide +kernel
theorem dX11_row_36 : decode cX11_row 36 = .ok (.getfield 81, 3) := by decide +kernel
theorem dX11_row_39 : decode cX11_row 39 = .ok (.iload_n 1, 1) := by decide +kernel
theorem dX11_row_40 : decode cX11_row 40 = .ok (.iload_n 2, 1) := by decide +kernel
theorem dX11_row_41 : decode cX11_row 41 = .ok (.iload_n 3, 1) := by decide +kernel
theorem dX11_row_42 : decode cX11_row 42 = .ok (.invokevirtual 312, 3) := by decide +kernel
theorem dX11_row_45 : decode cX11_row 45 = .ok (.iconst 1, 1) := by decide +kernel
theorem dX11_row_46 : decode cX11_row 46 = .ok (.ireturn, 1) := by decide +kernel
theorem dX11_put_0 : decode cX11_put 0 = .ok (.aload_n 0, 1) := by decide +kernel
theorem dX11_put_1 : decode cX11_put 1 = .ok (.getfield 81, 3) := by decide +kernel
theorem dX11_put_4 : decode cX11_put 4 = .ok (.iload_n 1, 1) := by decide +kernel
theorem dX11_put_5 : decode cX11_put 5 = .ok (.iload_n 2, 1) := by decide +kernel
theorem dX11_put_6 : decode cX11_put 6 = .ok (.invokevirtual 316, 3) := by decide +kernel
theorem dX11_put_9 : decode cX11_put 9 = .ok (.istore 5, 2) := by decide +kernel
theorem dX11_put_11 : decode cX11_put 11 = .ok (.iload 5, 2) := by decide +kernel
theorem dX11_put_13 : decode cX11_put 13 = .ok (.ifCond .eq 6, 3) := by decide +kernel
theorem dX11_put_16 : decode cX11_put 16 = .ok (.iload 5, 2) := by decide +kernel
theorem dX11_put_18 : decode cX11_put 18 = .ok (.ireturn, 1) := by decide +kernel
theorem dX11_put_19 : decode cX11_put 19 = .ok (.aload_n 0, 1) := by decide +kernel
theorem dX11_put_20 : decode cX11_put 20 = .ok (.getfield 81, 3) := by decide +kernel
theorem dX11_put_23 : decode cX11_put 23 = .ok (.getfield 128, 3) := by decide +kernel
theorem dX11_put_26 : decode cX11_put 26 = .ok (.iload_n 1, 1) := by decide +kernel
theorem dX11_put_27 : decode cX11_put 27 = .ok (.aaload, 1) := by decide +kernel
theorem dX11_put_28 : decode cX11_put 28 = .ok (.iload_n 2, 1) := by decide +kernel
theorem dX11_put_29 : decode cX11_put 29 = .ok (.aload_n 0, 1) := by decide +kernel
theorem dX11_put_30 : decode cX11_put 30 = .ok (.getfield 81, 3) := by decide +kernel
theorem dX11_put_33 : decode cX11_put 33 = .ok (.getfield 115, 3) := by decide +kernel
theorem dX11_put_36 : decode cX11_put 36 = .ok (.iload_n 1, 1) := by decide +kernel
theorem dX11_put_37 : decode cX11_put 37 = .ok (.iaload, 1) := by decide +kernel
theorem dX11_put_38 : decode cX11_put 38 = .ok (.lload_n 3, 1) := by decide +kernel
theorem dX11_put_39 : decode cX11_put 39 = .ok (.invokestatic 319, 3) := by decide +kernel
theorem dX11_put_42 : decode cX11_put 42 = .ok (.lastore, 1) := by decide +kernel
theorem dX11_put_43 : decode cX11_put 43 = .ok (.iconst 1, 1) := by decide +kernel
theorem dX11_put_44 : decode cX11_put 44 = .ok (.ireturn, 1) := by decide +kernel
theorem dX11_element_0 : decode cX11_element 0 = .ok (.aload_n 0, 1) := by decide +kernel
theorem dX11_element_1 : decode cX11_element 1 = .ok (.getfield 81, 3) := by decide +kernel
theorem dX11_element_4 : decode cX11_element 4 = .ok (.iload_n 1, 1) := by decide +kernel
theorem dX11_element_5 : decode cX11_element 5 = .ok (.iload_n 2, 1) := by decide +kernel
theorem dX11_element_6 : decode cX11_element 6 = .ok (.invokevirtual 316, 3) := by decide +kernel
theorem dX11_element_9 : decode cX11_element 9 = .ok (.ifCond .eq 9, 3) := by decide +kernel
theorem dX11_element_12 : decode cX11_element 12 = .ok (.ldc2_w 325, 3) := by decide +kernel
theorem dX11_element_15 : decode cX11_element 15 = .ok (.goto 14, 3) := by decide +kernel
theorem dX11_element_18 : decode cX11_element 18 = .ok (.aload_n 0, 1) := by decide +kernel
theorem dX11_element_19 : decode cX11_element 19 = .ok (.getfield 81, 3) := by decide +kernel
theorem dX11_element_22 : decode cX11_element 22 = .ok (.getfield 128, 3) := by decide +kernel
theorem dX11_element_25 : decode cX11_element 25 = .ok (.iload_n 1, 1) := by decide +kernel
theorem dX11_element_26 : decode cX11_element 26 = .ok (.aaload, 1) := by decide +kernel
theorem dX11_element_27 : decode cX11_element 27 = .ok (.iload_n 2, 1) := by decide +kernel
theorem dX11_element_28 : decode cX11_element 28 = .ok (.laload, 1) := by decide +kernel
theorem dX11_element_29 : decode cX11_element 29 = .ok (.lreturn, 1) := by decide +kernel
theorem dX11_shift_0 : decode cX11_shift 0 = .ok (.aload_n 0, 1) := by decide +kernel
theorem dX11_shift_1 : decode cX11_shift 1 = .ok (.getfield 81, 3) := by decide +kernel
theorem dX11_shift_4 : decode cX11_shift 4 = .ok (.iload_n 1, 1) := by decide +kernel
theorem dX11_shift_5 : decode cX11_shift 5 = .ok (.invokevirtual 111, 3) := by decide +kernel
theorem dX11_shift_8 : decode cX11_shift 8 = .ok (.ifCond .eq 14, 3) := by decide +kernel
theorem dX11_shift_11 : decode cX11_shift 11 = .ok (.aload_n 0, 1) := by decide +kernel
theorem dX11_shift_12 : decode cX11_shift 12 = .ok (.getfield 81, 3) := by decide +kernel
theorem dX11_shift_15 : decode cX11_shift 15 = .ok (.iload_n 3, 1) := by decide +kernel
theorem dX11_shift_16 : decode cX11_shift 16 = .ok (.invokevirtual 111, 3) := by decide +kernel
theorem dX11_shift_19 : decode cX11_shift 19 = .ok (.ifCond .ne 5, 3) := by decide +kernel
theorem dX11_shift_22 : decode cX11_shift 22 = .ok (.iconst (-1), 1) := by decide +kernel
theorem dX11_shift_23 : decode cX11_shift 23 = .ok (.ireturn, 1) := by decide +kernel
theorem dX11_shift_24 : decode cX11_shift 24 = .ok (.aload_n 0, 1) := by decide +kernel
theorem dX11_shift_25 : decode cX11_shift 25 = .ok (.getfield 81, 3) := by decide +kernel
theorem dX11_shift_28 : decode cX11_shift 28 = .ok (.getfield 115, 3) := by decide +kernel
theorem dX11_shift_31 : decode cX11_shift 31 = .ok (.iload_n 1, 1) := by decide +kernel
theorem dX11_shift_32 : decode cX11_shift 32 = .ok (.iaload, 1) := by decide +kernel
theorem dX11_shift_33 : decode cX11_shift 33 = .ok (.istore 6, 2) := by decide +kernel
theorem dX11_shift_35 : decode cX11_shift 35 = .ok (.aload_n 0, 1) := by decide +kernel
theorem dX11_shift_36 : decode cX11_shift 36 = .ok (.getfield 81, 3) := by decide +kernel
theorem dX11_shift_39 : decode cX11_shift 39 = .ok (.getfield 115, 3) := by decide +kernel
theorem dX11_shift_42 : decode cX11_shift 42 = .ok (.iload_n 3, 1) := by decide +kernel
theorem dX11_shift_43 : decode cX11_shift 43 = .ok (.iaload, 1) := by decide +kernel
theorem dX11_shift_44 : decode cX11_shift 44 = .ok (.istore 7, 2) := by decide +kernel
theorem dX11_shift_46 : decode cX11_shift 46 = .ok (.iload 6, 2) := by decide +kernel
theorem dX11_shift_48 : decode cX11_shift 48 = .ok (.bipush 6, 2) := by decide +kernel
theorem dX11_shift_50 : decode cX11_shift 50 = .ok (.if_icmp .eq 10, 3) := by decide +kernel
theorem dX11_shift_53 : decode cX11_shift 53 = .ok (.iload 7, 2) := by decide +kernel
theorem dX11_shift_55 : decode cX11_shift 55 = .ok (.bipush 6, 2) := by decide +kernel
theorem dX11_shift_57 : decode cX11_shift 57 = .ok (.if_icmp .ne 6, 3) := by decide +kernel
theorem dX11_shift_60 : decode cX11_shift 60 = .ok (.bipush (-11), 2) := by decide +kernel
theorem dX11_shift_62 : decode cX11_shift 62 = .ok (.ireturn, 1) := by decide +kernel
theorem dX11_shift_63 : decode cX11_shift 63 = .ok (.iload 6, 2) := by decide +kernel
theorem dX11_shift_65 : decode cX11_shift 65 = .ok (.iconst 5, 1) := by decide +kernel
theorem dX11_shift_66 : decode cX11_shift 66 = .ok (.if_icmp .eq 10, 3) := by decide +kernel
theorem dX11_shift_69 : decode cX11_shift 69 = .ok (.iload 6, 2) := by decide +kernel
theorem dX11_shift_71 : decode cX11_shift 71 = .ok (.iload 7, 2) := by decide +kernel
theorem dX11_shift_73 : decode cX11_shift 73 = .ok (.if_icmp .eq 6, 3) := by decide +kernel
theorem dX11_shift_76 : decode cX11_shift 76 = .ok (.bipush (-12), 2) := by decide +kernel
theorem dX11_shift_78 : decode cX11_shift 78 = .ok (.ireturn, 1) := by decide +kernel
theorem dX11_shift_79 : decode cX11_shift 79 = .ok (.aload_n 0, 1) := by decide +kernel
theorem dX11_shift_80 : decode cX11_shift 80 = .ok (.getfield 81, 3) := by decide +kernel
theorem dX11_shift_83 : decode cX11_shift 83 = .ok (.iload_n 1, 1) := by decide +kernel
theorem dX11_shift_84 : decode cX11_shift 84 = .ok (.iload_n 2, 1) := by decide +kernel
theorem dX11_shift_85 : decode cX11_shift 85 = .ok (.iload 5, 2) := by decide +kernel
theorem dX11_shift_87 : decode cX11_shift 87 = .ok (.invokevirtual 327, 3) := by decide +kernel
theorem dX11_shift_90 : decode cX11_shift 90 = .ok (.ifCond .eq 18, 3) := by decide +kernel
theorem dX11_shift_93 : decode cX11_shift 93 = .ok (.aload_n 0, 1) := by decide +kernel
theorem dX11_shift_94 : decode cX11_shift 94 = .ok (.getfield 81, 3) := by decide +kernel
theorem dX11_shift_97 : decode cX11_shift 97 = .ok (.iload_n 3, 1) := by decide +kernel
theorem dX11_shift_98 : decode cX11_shift 98 = .ok (.iload 4, 2) := by decide +kernel
theorem dX11_shift_100 : decode cX11_shift 100 = .ok (.iload 5, 2) := by decide +kernel
theorem dX11_shift_102 : decode cX11_shift 102 = .ok (.invokevirtual 327, 3) := by decide +kernel
theorem dX11_shift_105 : decode cX11_shift 105 = .ok (.ifCond .ne 6, 3) := by decide +kernel
theorem dX11_shift_108 : decode cX11_shift 108 = .ok (.bipush (-13), 2) := by decide +kernel
theorem dX11_shift_110 : decode cX11_shift 110 = .ok (.ireturn, 1) := by decide +kernel
theorem dX11_shift_111 : decode cX11_shift 111 = .ok (.aload_n 0, 1) := by decide +kernel
theorem dX11_shift_112 : decode cX11_shift 112 = .ok (.getfield 81, 3) := by decide +kernel
theorem dX11_shift_115 : decode cX11_shift 115 = .ok (.getfield 128, 3) := by decide +kernel
theorem dX11_shift_118 : decode cX11_shift 118 = .ok (.iload_n 1, 1) := by decide +kernel
theorem dX11_shift_119 : decode cX11_shift 119 = .ok (.aaload, 1) := by decide +kernel
theorem dX11_shift_120 : decode cX11_shift 120 = .ok (.iload_n 2, 1) := by decide +kernel
theorem dX11_shift_121 : decode cX11_shift 121 = .ok (.aload_n 0, 1) := by decide +kernel
theorem dX11_shift_122 : decode cX11_shift 122 = .ok (.getfield 81, 3) := by decide +kernel
theorem dX11_shift_125 : decode cX11_shift 125 = .ok (.getfield 128, 3) := by decide +kernel
theorem dX11_shift_128 : decode cX11_shift 128 = .ok (.iload_n 3, 1) := by decide +kernel
theorem dX11_shift_129 : decode cX11_shift 129 = .ok (.aaload, 1) := by decide +kernel
theorem dX11_shift_130 : decode cX11_shift 130 = .ok (.iload 4, 2) := by decide +kernel
theorem dX11_shift_132 : decode cX11_shift 132 = .ok (.iload 5, 2) := by decide +kernel
theorem dX11_shift_134 : decode cX11_shift 134 = .ok (.invokestatic 330, 3) := by decide +kernel
theorem dX11_shift_137 : decode cX11_shift 137 = .ok (.iload 5, 2) := by decide +kernel
theorem dX11_shift_139 : decode cX11_shift 139 = .ok (.ireturn, 1) := by decide +kernel
theorem dX11_taken_0 : decode cX11_taken 0 = .ok (.aload_n 0, 1) := by decide +kernel
theorem dX11_taken_1 : decode cX11_taken 1 = .ok (.getfield 81, 3) := by decide +kernel
theorem dX11_taken_4 : decode cX11_taken 4 = .ok (.iload_n 1, 1) := by decide +kernel
theorem dX11_taken_5 : decode cX11_taken 5 = .ok (.invokevirtual 111, 3) := by decide +kernel
theorem dX11_taken_8 : decode cX11_taken 8 = .ok (.ifCond .eq 13, 3) := by decide +kernel
theorem dX11_taken_11 : decode cX11_taken 11 = .ok (.iload_n 2, 1) := by decide +kernel
theorem dX11_taken_12 : decode cX11_taken 12 = .ok (.iconst 0, 1) := by decide +kernel
theorem dX11_taken_13 : decode cX11_taken 13 = .ok (.bipush 7, 2) := by decide +kernel
theorem dX11_taken_15 : decode cX11_taken 15 = .ok (.invokestatic 89, 3) := by decide +kernel
theorem dX11_taken_18 : decode cX11_taken 18 = .ok (.ifCond .ne 5, 3) := by decide +kernel
theorem dX11_taken_21 : decode cX11_taken 21 = .ok (.iconst (-1), 1) := by decide +kernel
theorem dX11_taken_22 : decode cX11_taken 22 = .ok (.ireturn, 1) := by decide +kernel
theorem dX11_taken_23 : decode cX11_taken 23 = .ok (.aload_n 0, 1) := by decide +kernel
theorem dX11_taken_24 : decode cX11_taken 24 = .ok (.getfield 81, 3) := by decide +kernel
theorem dX11_taken_27 : decode cX11_taken 27 = .ok (.getfield 115, 3) := by decide +kernel
theorem dX11_taken_30 : decode cX11_taken 30 = .ok (.iload_n 1, 1) := by decide +kernel
theorem dX11_taken_31 : decode cX11_taken 31 = .ok (.iaload, 1) := by decide +kernel
theorem dX11_taken_32 : decode cX11_taken 32 = .ok (.bipush 6, 2) := by decide +kernel
theorem dX11_taken_34 : decode cX11_taken 34 = .ok (.if_icmp .ne 6, 3) := by decide +kernel
theorem dX11_taken_37 : decode cX11_taken 37 = .ok (.bipush (-11), 2) := by decide +kernel
theorem dX11_taken_39 : decode cX11_taken 39 = .ok (.ireturn, 1) := by decide +kernel
theorem dX11_taken_40 : decode cX11_taken 40 = .ok (.aload_n 0, 1) := by decide +kernel
theorem dX11_taken_41 : decode cX11_taken 41 = .ok (.getfield 81, 3) := by decide +kernel
theorem dX11_taken_44 : decode cX11_taken 44 = .ok (.getfield 336, 3) := by decide +kernel
theorem dX11_taken_47 : decode cX11_taken 47 = .ok (.iload_n 1, 1) := by decide +kernel
theorem dX11_taken_48 : decode cX11_taken 48 = .ok (.iaload, 1) := by decide +kernel
theorem dX11_taken_49 : decode cX11_taken 49 = .ok (.istore_n 3, 1) := by decide +kernel
theorem dX11_taken_50 : decode cX11_taken 50 = .ok (.aload_n 0, 1) := by decide +kernel
theorem dX11_taken_51 : decode cX11_taken 51 = .ok (.getfield 81, 3) := by decide +kernel
theorem dX11_taken_54 : decode cX11_taken 54 = .ok (.getfield 115, 3) := by decide +kernel
theorem dX11_taken_57 : decode cX11_taken 57 = .ok (.iload_n 1, 1) := by decide +kernel
theorem dX11_taken_58 : decode cX11_taken 58 = .ok (.iaload, 1) := by decide +kernel
theorem dX11_taken_59 : decode cX11_taken 59 = .ok (.iconst 5, 1) := by decide +kernel
theorem dX11_taken_60 : decode cX11_taken 60 = .ok (.if_icmp .ne 30, 3) := by decide +kernel
theorem dX11_taken_63 : decode cX11_taken 63 = .ok (.aload_n 0, 1) := by decide +kernel
theorem dX11_taken_64 : decode cX11_taken 64 = .ok (.getfield 74, 3) := by decide +kernel
theorem dX11_taken_67 : decode cX11_taken 67 = .ok (.iload_n 3, 1) := by decide +kernel
theorem dX11_taken_68 : decode cX11_taken 68 = .ok (.invokevirtual 301, 3) := by decide +kernel
theorem dX11_taken_71 : decode cX11_taken 71 = .ok (.ifCond .eq 19, 3) := by decide +kernel
theorem dX11_taken_74 : decode cX11_taken 74 = .ok (.aload_n 0, 1) := by decide +kernel
theorem dX11_taken_75 : decode cX11_taken 75 = .ok (.getfield 74, 3) := by decide +kernel
theorem dX11_taken_78 : decode cX11_taken 78 = .ok (.getfield 339, 3) := by decide +kernel
theorem dX11_taken_81 : decode cX11_taken 81 = .ok (.iload_n 3, 1) := by decide +kernel
theorem dX11_taken_82 : decode cX11_taken 82 = .ok (.iaload, 1) := by decide +kernel
theorem dX11_taken_83 : decode cX11_taken 83 = .ok (.iload_n 2, 1) := by decide +kernel
theorem dX11_taken_84 : decode cX11_taken 84 = .ok (.invokestatic 342, 3) := by decide +kernel
theorem dX11_taken_87 : decode cX11_taken 87 = .ok (.ifCond .ne 6, 3) := by decide +kernel
theorem dX11_taken_90 : decode cX11_taken 90 = .ok (.bipush (-12), 2) := by decide +kernel
theorem dX11_taken_92 : decode cX11_taken 92 = .ok (.ireturn, 1) := by decide +kernel
theorem dX11_taken_93 : decode cX11_taken 93 = .ok (.aload_n 0, 1) := by decide +kernel
theorem dX11_taken_94 : decode cX11_taken 94 = .ok (.getfield 74, 3) := by decide +kernel
theorem dX11_taken_97 : decode cX11_taken 97 = .ok (.getfield 339, 3) := by decide +kernel
theorem dX11_taken_100 : decode cX11_taken 100 = .ok (.iload_n 3, 1) := by decide +kernel
theorem dX11_taken_101 : decode cX11_taken 101 = .ok (.iaload, 1) := by decide +kernel
theorem dX11_taken_102 : decode cX11_taken 102 = .ok (.ireturn, 1) := by decide +kernel
theorem dX11_count_0 : decode cX11_count 0 = .ok (.iload_n 1, 1) := by decide +kernel
theorem dX11_count_1 : decode cX11_count 1 = .ok (.tableswitch 135 0 9 #[55, 63, 71, 79, 87, 95, 103, 111, 119, 127], 55) := by decide +kernel
theorem dX11_count_56 : decode cX11_count 56 = .ok (.aload_n 0, 1) := by decide +kernel
theorem dX11_count_57 : decode cX11_count 57 = .ok (.getfield 10, 3) := by decide +kernel
theorem dX11_count_60 : decode cX11_count 60 = .ok (.getfield 181, 3) := by decide +kernel
theorem dX11_count_63 : decode cX11_count 63 = .ok (.ireturn, 1) := by decide +kernel
theorem dX11_count_64 : decode cX11_count 64 = .ok (.aload_n 0, 1) := by decide +kernel
theorem dX11_count_65 : decode cX11_count 65 = .ok (.getfield 19, 3) := by decide +kernel
theorem dX11_count_68 : decode cX11_count 68 = .ok (.getfield 346, 3) := by decide +kernel
theorem dX11_count_71 : decode cX11_count 71 = .ok (.ireturn, 1) := by decide +kernel
theorem dX11_count_72 : decode cX11_count 72 = .ok (.aload_n 0, 1) := by decide +kernel
theorem dX11_count_73 : decode cX11_count 73 = .ok (.getfield 26, 3) := by decide +kernel
theorem dX11_count_76 : decode cX11_count 76 = .ok (.getfield 347, 3) := by decide +kernel
theorem dX11_count_79 : decode cX11_count 79 = .ok (.ireturn, 1) := by decide +kernel
theorem dX11_count_80 : decode cX11_count 80 = .ok (.aload_n 0, 1) := by decide +kernel
theorem dX11_count_81 : decode cX11_count 81 = .ok (.getfield 35, 3) := by decide +kernel
theorem dX11_count_84 : decode cX11_count 84 = .ok (.getfield 180, 3) := by decide +kernel
theorem dX11_count_87 : decode cX11_count 87 = .ok (.ireturn, 1) := by decide +kernel
theorem dX11_count_88 : decode cX11_count 88 = .ok (.aload_n 0, 1) := by decide +kernel
theorem dX11_count_89 : decode cX11_count 89 = .ok (.getfield 51, 3) := by decide +kernel
theorem dX11_count_92 : decode cX11_count 92 = .ok (.getfield 348, 3) := by decide +kernel
theorem dX11_count_95 : decode cX11_count 95 = .ok (.ireturn, 1) := by decide +kernel
theorem dX11_count_96 : decode cX11_count 96 = .ok (.aload_n 0, 1) := by decide +kernel
theorem dX11_count_97 : decode cX11_count 97 = .ok (.getfield 51, 3) := by decide +kernel
theorem dX11_count_100 : decode cX11_count 100 = .ok (.getfield 174, 3) := by decide +kernel
theorem dX11_count_103 : decode cX11_count 103 = .ok (.ireturn, 1) := by decide +kernel
theorem dX11_count_104 : decode cX11_count 104 = .ok (.aload_n 0, 1) := by decide +kernel
theorem dX11_count_105 : decode cX11_count 105 = .ok (.getfield 67, 3) := by decide +kernel
theorem dX11_count_108 : decode cX11_count 108 = .ok (.getfield 267, 3) := by decide +kernel
theorem dX11_count_111 : decode cX11_count 111 = .ok (.ireturn, 1) := by decide +kernel
theorem dX11_count_112 : decode cX11_count 112 = .ok (.aload_n 0, 1) := by decide +kernel
theorem dX11_count_113 : decode cX11_count 113 = .ok (.getfield 44, 3) := by decide +kernel
theorem dX11_count_116 : decode cX11_count 116 = .ok (.getfield 351, 3) := by decide +kernel
theorem dX11_count_119 : decode cX11_count 119 = .ok (.ireturn, 1) := by decide +kernel
theorem dX11_count_120 : decode cX11_count 120 = .ok (.aload_n 0, 1) := by decide +kernel
theorem dX11_count_121 : decode cX11_count 121 = .ok (.getfield 74, 3) := by decide +kernel
theorem dX11_count_124 : decode cX11_count 124 = .ok (.getfield 354, 3) := by decide +kernel
theorem dX11_count_127 : decode cX11_count 127 = .ok (.ireturn, 1) := by decide +kernel
theorem dX11_count_128 : decode cX11_count 128 = .ok (.aload_n 0, 1) := by decide +kernel
theorem dX11_count_129 : decode cX11_count 129 = .ok (.getfield 74, 3) := by decide +kernel
theorem dX11_count_132 : decode cX11_count 132 = .ok (.getfield 298, 3) := by decide +kernel
theorem dX11_count_135 : decode cX11_count 135 = .ok (.ireturn, 1) := by decide +kernel
theorem dX11_count_136 : decode cX11_count 136 = .ok (.iconst (-1), 1) := by decide +kernel
theorem dX11_count_137 : decode cX11_count 137 = .ok (.ireturn, 1) := by decide +kernel
theorem dX11_within_0 : decode cX11_within 0 = .ok (.iload_n 0, 1) := by decide +kernel
theorem dX11_within_1 : decode cX11_within 1 = .ok (.iload_n 1, 1) := by decide +kernel
theorem dX11_within_2 : decode cX11_within 2 = .ok (.if_icmp .lt 12, 3) := by decide +kernel
theorem dX11_within_5 : decode cX11_within 5 = .ok (.iload_n 0, 1) := by decide +kernel
theorem dX11_within_6 : decode cX11_within 6 = .ok (.iload_n 2, 1) := by decide +kernel
theorem dX11_within_7 : decode cX11_within 7 = .ok (.if_icmp .gt 7, 3) := by decide +kernel
theorem dX11_within_10 : decode cX11_within 10 = .ok (.iconst 1, 1) := by decide +kernel
theorem dX11_within_11 : decode cX11_within 11 = .ok (.goto 4, 3) := by decide +kernel
theorem dX11_within_14 : decode cX11_within 14 = .ok (.iconst 0, 1) := by decide +kernel
theorem dX11_within_15 : decode cX11_within 15 = .ok (.ireturn, 1) := by decide +kernel
theorem dX11_cut_0 : decode cX11_cut 0 = .ok (.lload_n 2, 1) := by decide +kernel
theorem dX11_cut_1 : decode cX11_cut 1 = .ok (.lconst 0, 1) := by decide +kernel
theorem dX11_cut_2 : decode cX11_cut 2 = .ok (.lcmp, 1) := by decide +kernel
theorem dX11_cut_3 : decode cX11_cut 3 = .ok (.ifCond .ne 7, 3) := by decide +kernel
theorem dX11_cut_6 : decode cX11_cut 6 = .ok (.iconst 0, 1) := by decide +kernel
theorem dX11_cut_7 : decode cX11_cut 7 = .ok (.goto 7, 3) := by decide +kernel
theorem dX11_cut_10 : decode cX11_cut 10 = .ok (.lload_n 0, 1) := by decide +kernel
theorem dX11_cut_11 : decode cX11_cut 11 = .ok (.lload_n 2, 1) := by decide +kernel
theorem dX11_cut_12 : decode cX11_cut 12 = .ok (.ldiv, 1) := by decide +kernel
theorem dX11_cut_13 : decode cX11_cut 13 = .ok (.l2i, 1) := by decide +kernel
theorem dX11_cut_14 : decode cX11_cut 14 = .ok (.ireturn, 1) := by decide +kernel
theorem dX11_less_0 : decode cX11_less 0 = .ok (.iload_n 0, 1) := by decide +kernel
theorem dX11_less_1 : decode cX11_less 1 = .ok (.ldc 136, 2) := by decide +kernel
theorem dX11_less_3 : decode cX11_less 3 = .ok (.if_icmp .eq 9, 3) := by decide +kernel
theorem dX11_less_6 : decode cX11_less 6 = .ok (.iload_n 1, 1) := by decide +kernel
theorem dX11_less_7 : decode cX11_less 7 = .ok (.ldc 136, 2) := by decide +kernel
theorem dX11_less_9 : decode cX11_less 9 = .ok (.if_icmp .ne 8, 3) := by decide +kernel
theorem dX11_less_12 : decode cX11_less 12 = .ok (.ldc 136, 2) := by decide +kernel
theorem dX11_less_14 : decode cX11_less 14 = .ok (.goto 6, 3) := by decide +kernel
theorem dX11_less_17 : decode cX11_less 17 = .ok (.iload_n 0, 1) := by decide +kernel
theorem dX11_less_18 : decode cX11_less 18 = .ok (.iload_n 1, 1) := by decide +kernel
theorem dX11_less_19 : decode cX11_less 19 = .ok (.isub, 1) := by decide +kernel
theorem dX11_less_20 : decode cX11_less 20 = .ok (.ireturn, 1) := by decide +kernel
theorem dX12_init_0 : decode cX12_init 0 = .ok (.aload_n 0, 1) := by decide +kernel
theorem dX12_init_1 : decode cX12_init 1 = .ok (.invokespecial 1, 3) := by decide +kernel
theorem dX12_init_4 : decode cX12_init 4 = .ok (.aload_n 0, 1) := by decide +kernel
theorem dX12_init_5 : decode cX12_init 5 = .ok (.bipush 20, 2) := by decide +kernel
theorem dX12_init_7 : decode cX12_init 7 = .ok (.newarray .int, 2) := by decide +kernel
theorem dX12_init_9 : decode cX12_init 9 = .ok (.putfield 7, 3) := by decide +kernel
theorem dX12_init_12 : decode cX12_init 12 = .ok (.aload_n 0, 1) := by decide +kernel
theorem dX12_init_13 : decode cX12_init 13 = .ok (.bipush 20, 2) := by decide +kernel
theorem dX12_init_15 : decode cX12_init 15 = .ok (.newarray .int, 2) := by decide +kernel
theorem dX12_init_17 : decode cX12_init 17 = .ok (.putfield 13, 3) := by decide +kernel
theorem dX12_init_20 : decode cX12_init 20 = .ok (.aload_n 0, 1) := by decide +kernel
theorem dX12_init_21 : decode cX12_init 21 = .ok (.bipush 20, 2) := by decide +kernel
theorem dX12_init_23 : decode cX12_init 23 = .ok (.newarray .int, 2) := by decide +kernel
theorem dX12_init_25 : decode cX12_init 25 = .ok (.putfield 16, 3) := by decide +kernel
theorem dX12_init_28 : decode cX12_init 28 = .ok (.aload_n 0, 1) := by decide +kernel
theorem dX12_init_29 : decode cX12_init 29 = .ok (.bipush 20, 2) := by decide +kernel
theorem dX12_init_31 : decode cX12_init 31 = .ok (.newarray .int, 2) := by decide +kernel
theorem dX12_init_33 : decode cX12_init 33 = .ok (.putfield 19, 3) := by decide +kernel
theorem dX12_init_36 : decode cX12_init 36 = .ok (.aload_n 0, 1) := by decide +kernel
theorem dX12_init_37 : decode cX12_init 37 = .ok (.bipush 6, 2) := by decide +kernel
theorem dX12_init_39 : decode cX12_init 39 = .ok (.newarray .int, 2) := by decide +kernel
theorem dX12_init_41 : decode cX12_init 41 = .ok (.putfield 22, 3) := by decide +kernel
theorem dX12_init_44 : decode cX12_init 44 = .ok (.aload_n 0, 1) := by decide +kernel
theorem dX12_init_45 : decode cX12_init 45 = .ok (.bipush 6, 2) := by decide +kernel
theorem dX12_init_47 : decode cX12_init 47 = .ok (.newarray .int, 2) := by decide +kernel
theorem dX12_init_49 : decode cX12_init 49 = .ok (.putfield 25, 3) := by decide +kernel
theorem dX12_init_52 : decode cX12_init 52 = .ok (.aload_n 0, 1) := by decide +kernel
theorem dX12_init_53 : decode cX12_init 53 = .ok (.bipush 6, 2) := by decide +kernel
theorem dX12_init_55 : decode cX12_init 55 = .ok (.newarray .int, 2) := by decide +kernel
theorem dX12_init_57 : decode cX12_init 57 = .ok (.putfield 28, 3) := by decide +kernel
theorem dX12_init_60 : decode cX12_init 60 = .ok (.aload_n 0, 1) := by decide +kernel
theorem dX12_init_61 : decode cX12_init 61 = .ok (.iconst 5, 1) := by decide +kernel
theorem dX12_init_62 : decode cX12_init 62 = .ok (.newarray .int, 2) := by decide +kernel
theorem dX12_init_64 : decode cX12_init 64 = .ok (.putfield 31, 3) := by decide +kernel
theorem dX12_init_67 : decode cX12_init 67 = .ok (.aload_n 0, 1) := by decide +kernel
theorem dX12_init_68 : decode cX12_init 68 = .ok (.bipush 120, 2) := by decide +kernel
theorem dX12_init_70 : decode cX12_init 70 = .ok (.newarray .int, 2) := by decide +kernel
theorem dX12_init_72 : decode cX12_init 72 = .ok (.putfield 34, 3) := by decide +kernel
theorem dX12_init_75 : decode cX12_init 75 = .ok (.aload_n 0, 1) := by decide +kernel
theorem dX12_init_76 : decode cX12_init 76 = .ok (.bipush 120, 2) := by decide +kernel
theorem dX12_init_78 : decode cX12_init 78 = .ok (.newarray .int, 2) := by decide +kernel
theorem dX12_init_80 : decode cX12_init 80 = .ok (.putfield 37, 3) := by decide +kernel
theorem dX12_init_83 : decode cX12_init 83 = .ok (.aload_n 0, 1) := by decide +kernel
theorem dX12_init_84 : decode cX12_init 84 = .ok (.bipush 120, 2) := by decide +kernel
theorem dX12_init_86 : decode cX12_init 86 = .ok (.newarray .int, 2) := by decide +kernel
theorem dX12_init_88 : decode cX12_init 88 = .ok (.putfield 40, 3) := by decide +kernel
theorem dX12_init_91 : decode cX12_init 91 = .ok (.aload_n 0, 1) := by decide +kernel
theorem dX12_init_92 : decode cX12_init 92 = .ok (.bipush 120, 2) := by decide +kernel
theorem dX12_init_94 : decode cX12_init 94 = .ok (.newarray .int, 2) := by decide +kernel
theorem dX12_init_96 : decode cX12_init 96 = .ok (.putfield 43, 3) := by decide +kernel
theorem dX12_init_99 : decode cX12_init 99 = .ok (.aload_n 0, 1) := by decide +kernel
theorem dX12_init_100 : decode cX12_init 100 = .ok (.bipush 120, 2) := by decide +kernel
theorem dX12_init_102 : decode cX12_init 102 = .ok (.newarray .int, 2) := by decide +kernel
theorem dX12_init_104 : decode cX12_init 104 = .ok (.putfield 46, 3) := by decide +kernel
theorem dX12_init_107 : decode cX12_init 107 = .ok (.aload_n 0, 1) := by decide +kernel
theorem dX12_init_108 : decode cX12_init 108 = .ok (.bipush 100, 2) := by decide +kernel
theorem dX12_init_110 : decode cX12_init 110 = .ok (.putfield 49, 3) := by decide +kernel
theorem dX12_init_113 : decode cX12_init 113 = .ok (.aload_n 0, 1) := by decide +kernel
theorem dX12_init_114 : decode cX12_init 114 = .ok (.bipush 40, 2) := by decide +kernel
theorem dX12_init_116 : decode cX12_init 116 = .ok (.newarray .int, 2) := by decide +kernel
theorem dX12_init_118 : decode cX12_init 118 = .ok (.putfield 53, 3) := by decide +kernel
theorem dX12_init_121 : decode cX12_init 121 = .ok (.aload_n 0, 1) := by decide +kernel
theorem dX12_init_122 : decode cX12_init 122 = .ok (.bipush 40, 2) := by decide +kernel
theorem dX12_init_124 : decode cX12_init 124 = .ok (.newarray .int, 2) := by decide +kernel
theorem dX12_init_126 : decode cX12_init 126 = .ok (.putfield 56, 3) := by decide +kernel
theorem dX12_init_129 : decode cX12_init 129 = .ok (.aload_n 0, 1) := by decide +kernel
theorem dX12_init_130 : decode cX12_init 130 = .ok (.bipush 40, 2) := by decide +kernel
theorem dX12_init_132 : decode cX12_init 132 = .ok (.newarray .int, 2) := by decide +kernel
theorem dX12_init_134 : decode cX12_init 134 = .ok (.putfield 59, 3) := by decide +kernel
theorem dX12_init_137 : decode cX12_init 137 = .ok (.aload_n 0, 1) := by decide +kernel
theorem dX12_init_138 : decode cX12_init 138 = .ok (.bipush 40, 2) := by decide +kernel
theorem dX12_init_140 : decode cX12_init 140 = .ok (.newarray .int, 2) := by decide +kernel
theorem dX12_init_142 : decode cX12_init 142 = .ok (.putfield 62, 3) := by decide +kernel
theorem dX12_init_145 : decode cX12_init 145 = .ok (.aload_n 0, 1) := by decide +kernel
theorem dX12_init_146 : decode cX12_init 146 = .ok (.bipush 120, 2) := by decide +kernel
theorem dX12_init_148 : decode cX12_init 148 = .ok (.newarray .int, 2) := by decide +kernel
theorem dX12_init_150 : decode cX12_init 150 = .ok (.putfield 65, 3) := by decide +kernel
theorem dX12_init_153 : decode cX12_init 153 = .ok (.aload_n 0, 1) := by decide +kernel
theorem dX12_init_154 : decode cX12_init 154 = .ok (.sipush 1000, 3) := by decide +kernel
theorem dX12_init_157 : decode cX12_init 157 = .ok (.newarray .int, 2) := by decide +kernel
theorem dX12_init_159 : decode cX12_init 159 = .ok (.putfield 68, 3) := by decide +kernel
theorem dX12_init_162 : decode cX12_init 162 = .ok (.aload_n 0, 1) := by decide +kernel
theorem dX12_init_163 : decode cX12_init 163 = .ok (.iconst 5, 1) := by decide +kernel
theorem dX12_init_164 : decode cX12_init 164 = .ok (.newarray .int, 2) := by decide +kernel
theorem dX12_init_166 : decode cX12_init 166 = .ok (.putfield 71, 3) := by decide +kernel
theorem dX12_init_169 : decode cX12_init 169 = .ok (.aload_n 0, 1) := by decide +kernel
theorem dX12_init_170 : decode cX12_init 170 = .ok (.sipush 130, 3) := by decide +kernel
theorem dX12_init_173 : decode cX12_init 173 = .ok (.newarray .int, 2) := by decide +kernel
theorem dX12_init_175 : decode cX12_init 175 = .ok (.putfield 74, 3) := by decide +kernel
theorem dX12_init_178 : decode cX12_init 178 = .ok (.aload_n 0, 1) := by decide +kernel
theorem dX12_init_179 : decode cX12_init 179 = .ok (.sipush 130, 3) := by decide +kernel
theorem dX12_init_182 : decode cX12_init 182 = .ok (.newarray .int, 2) := by decide +kernel
theorem dX12_init_184 : decode cX12_init 184 = .ok (.putfield 77, 3) := by decide +kernel
theorem dX12_init_187 : decode cX12_init 187 = .ok (.aload_n 0, 1) := by decide +kernel
theorem dX12_init_188 : decode cX12_init 188 = .ok (.sipush 130, 3) := by decide +kernel
theorem dX12_init_191 : decode cX12_init 191 = .ok (.newarray .int, 2) := by decide +kernel
theorem dX12_init_193 : decode cX12_init 193 = .ok (.putfield 80, 3) := by decide +kernel
theorem dX12_init_196 : decode cX12_init 196 = .ok (.aload_n 0, 1) := by decide +kernel
theorem dX12_init_197 : decode cX12_init 197 = .ok (.bipush 120, 2) := by decide +kernel
theorem dX12_init_199 : decode cX12_init 199 = .ok (.newarray .int, 2) := by decide +kernel
theorem dX12_init_201 : decode cX12_init 201 = .ok (.putfield 83, 3) := by decide +kernel
theorem dX12_init_204 : decode cX12_init 204 = .ok (.aload_n 0, 1) := by decide +kernel
theorem dX12_init_205 : decode cX12_init 205 = .ok (.bipush 6, 2) := by decide +kernel
theorem dX12_init_207 : decode cX12_init 207 = .ok (.newarray .int, 2) := by decide +kernel
theorem dX12_init_209 : decode cX12_init 209 = .ok (.putfield 86, 3) := by decide +kernel
theorem dX12_init_212 : decode cX12_init 212 = .ok (.aload_n 0, 1) := by decide +kernel
theorem dX12_init_213 : decode cX12_init 213 = .ok (.bipush 6, 2) := by decide +kernel
theorem dX12_init_215 : decode cX12_init 215 = .ok (.newarray .int, 2) := by decide +kernel
theorem dX12_init_217 : decode cX12_init 217 = .ok (.putfield 89, 3) := by decide +kernel
theorem dX12_init_220 : decode cX12_init 220 = .ok (.aload_n 0, 1) := by decide +kernel
theorem dX12_init_221 : decode cX12_init 221 = .ok (.bipush 50, 2) := by decide +kernel
theorem dX12_init_223 : decode cX12_init 223 = .ok (.newarray .int, 2) := by decide +kernel
theorem dX12_init_225 : decode cX12_init 225 = .ok (.putfield 92, 3) := by decide +kernel
theorem dX12_init_228 : decode cX12_init 228 = .ok (.aload_n 0, 1) := by decide +kernel
theorem dX12_init_229 : decode cX12_init 229 = .ok (.bipush 24, 2) := by decide +kernel
theorem dX12_init_231 : decode cX12_init 231 = .ok (.newarray .int, 2) := by decide +kernel
theorem dX12_init_233 : decode cX12_init 233 = .ok (.putfield 95, 3) := by decide +kernel
theorem dX12_init_236 : decode cX12_init 236 = .ok (.aload_n 0, 1) := by decide +kernel
theorem dX12_init_237 : decode cX12_init 237 = .ok (.bipush 6, 2) := by decide +kernel
theorem dX12_init_239 : decode cX12_init 239 = .ok (.newarray .int, 2) := by decide +kernel
theorem dX12_init_241 : decode cX12_init 241 = .ok (.dup, 1) := by decide +kernel
theorem dX12_init_242 : decode cX12_init 242 = .ok (.iconst 0, 1) := by decide +kernel
theorem dX12_init_243 : decode cX12_init 243 = .ok (.bipush (-2), 2) := by decide +kernel
theorem dX12_init_245 : decode cX12_init 245 = .ok (.iastore, 1) := by decide +kernel
theorem dX12_init_246 : decode cX12_init 246 = .ok (.dup, 1) := by decide +kernel
theorem dX12_init_247 : decode cX12_init 247 = .ok (.iconst 1, 1) := by decide +kernel
theorem dX12_init_248 : decode cX12_init 248 = .ok (.bipush (-2), 2) := by decide +kernel
theorem dX12_init_250 : decode cX12_init 250 = .ok (.iastore, 1) := by decide +kernel
theorem dX12_init_251 : decode cX12_init 251 = .ok (.dup, 1) := by decide +kernel
theorem dX12_init_252 : decode cX12_init 252 = .ok (.iconst 2, 1) := by decide +kernel
theorem dX12_init_253 : decode cX12_init 253 = .ok (.bipush (-2), 2) := by decide +kernel
theorem dX12_init_255 : decode cX12_init 255 = .ok (.iastore, 1) := by decide +kernel
theorem dX12_init_256 : decode cX12_init 256 = .ok (.dup, 1) := by decide +kernel
theorem dX12_init_257 : decode cX12_init 257 = .ok (.iconst 3, 1) := by decide +kernel
theorem dX12_init_258 : decode cX12_init 258 = .ok (.bipush (-2), 2) := by decide +kernel
theorem dX12_init_260 : decode cX12_init 260 = .ok (.iastore, 1) := by decide +kernel
theorem dX12_init_261 : decode cX12_init 261 = .ok (.dup, 1) := by decide +kernel
theorem dX12_init_262 : decode cX12_init 262 = .ok (.iconst 4, 1) := by decide +kernel
theorem dX12_init_263 : decode cX12_init 263 = .ok (.bipush (-2), 2) := by decide +kernel
theorem dX12_init_265 : decode cX12_init 265 = .ok (.iastore, 1) := by decide +kernel
theorem dX12_init_266 : decode cX12_init 266 = .ok (.dup, 1) := by decide +kernel
theorem dX12_init_267 : decode cX12_init 267 = .ok (.iconst 5, 1) := by decide +kernel
theorem dX12_init_268 : decode cX12_init 268 = .ok (.bipush (-2), 2) := by decide +kernel
theorem dX12_init_270 : decode cX12_init 270 = .ok (.iastore, 1) := by decide +kernel
theorem dX12_init_271 : decode cX12_init 271 = .ok (.putfield 98, 3) := by decide +kernel
theorem dX12_init_274 : decode cX12_init 274 = .ok (.aload_n 0, 1) := by decide +kernel
theorem dX12_init_275 : decode cX12_init 275 = .ok (.bipush 6, 2) := by decide +kernel
theorem dX12_init_277 : decode cX12_init 277 = .ok (.newarray .int, 2) := by decide +kernel
theorem dX12_init_279 : decode cX12_init 279 = .ok (.putfield 101, 3) := by decide +kernel
theorem dX12_init_282 : decode cX12_init 282 = .ok (.aload_n 0, 1) := by decide +kernel
theorem dX12_init_283 : decode cX12_init 283 = .ok (.bipush 6, 2) := by decide +kernel
theorem dX12_init_285 : decode cX12_init 285 = .ok (.newarray .int, 2) := by decide +kernel
theorem dX12_init_287 : decode cX12_init 287 = .ok (.putfield 104, 3) := by decide +kernel
theorem dX12_init_290 : decode cX12_init 290 = .ok (.aload_n 0, 1) := by decide +kernel
theorem dX12_init_291 : decode cX12_init 291 = .ok (.sipush 360, 3) := by decide +kernel
theorem dX12_init_294 : decode cX12_init 294 = .ok (.newarray .long, 2) := by decide +kernel
theorem dX12_init_296 : decode cX12_init 296 = .ok (.putfield 107, 3) := by decide +kernel
theorem dX12_init_299 : decode cX12_init 299 = .ok (.aload_n 0, 1) := by decide +kernel
theorem dX12_init_300 : decode cX12_init 300 = .ok (.bipush 60, 2) := by decide +kernel
theorem dX12_init_302 : decode cX12_init 302 = .ok (.newarray .long, 2) := by decide +kernel
theorem dX12_init_304 : decode cX12_init 304 = .ok (.putfield 111, 3) := by decide +kernel
theorem dX12_init_307 : decode cX12_init 307 = .ok (.aload_n 0, 1) := by decide +kernel
theorem dX12_init_308 : decode cX12_init 308 = .ok (.getfield 22, 3) := by decide +kernel
theorem dX12_init_311 : decode cX12_init 311 = .ok (.iconst 0, 1) := by decide +kernel
theorem dX12_init_312 : decode cX12_init 312 = .ok (.bipush 20, 2) := by decide +kernel
theorem dX12_init_314 : decode cX12_init 314 = .ok (.iastore, 1) := by decide +kernel
theorem dX12_init_315 : decode cX12_init 315 = .ok (.aload_n 0, 1) := by decide +kernel
theorem dX12_init_316 : decode cX12_init 316 = .ok (.iconst 1, 1) := by decide +kernel
theorem dX12_init_317 : decode cX12_init 317 = .ok (.putfield 114, 3) := by decide +kernel
theorem dX12_init_320 : decode cX12_init 320 = .ok (.return_, 1) := by decide +kernel
theorem dX12_isIn_0 : decode cX12_isIn 0 = .ok (.iload_n 0, 1) := by decide +kernel
theorem dX12_isIn_1 : decode cX12_isIn 1 = .ok (.iload_n 1, 1) := by decide +kernel
theorem dX12_isIn_2 : decode cX12_isIn 2 = .ok (.if_icmp .lt 12, 3) := by decide +kernel
theorem dX12_isIn_5 : decode cX12_isIn 5 = .ok (.iload_n 0, 1) := by decide +kernel
theorem dX12_isIn_6 : decode cX12_isIn 6 = .ok (.iload_n 2, 1) := by decide +kernel
theorem dX12_isIn_7 : decode cX12_isIn 7 = .ok (.if_icmp .gt 7, 3) := by decide +kernel
theorem dX12_isIn_10 : decode cX12_isIn 10 = .ok (.iconst 1, 1) := by decide +kernel
theorem dX12_isIn_11 : decode cX12_isIn 11 = .ok (.goto 4, 3) := by decide +kernel
theorem dX12_isIn_14 : decode cX12_isIn 14 = .ok (.iconst 0, 1) := by decide +kernel
theorem dX12_isIn_15 : decode cX12_isIn 15 = .ok (.ireturn, 1) := by decide +kernel
theorem dX12_runner_0 : decode cX12_runner 0 = .ok (.iload_n 1, 1) := by decide +kernel
theorem dX12_runner_1 : decode cX12_runner 1 = .ok (.sipush 600, 3) := by decide +kernel
theorem dX12_runner_4 : decode cX12_runner 4 = .ok (.sipush 9999, 3) := by decide +kernel
theorem dX12_runner_7 : decode cX12_runner 7 = .ok (.invokestatic 117, 3) := by decide +kernel
theorem dX12_runner_10 : decode cX12_runner 10 = .ok (.ifCond .eq 21, 3) := by decide +kernel
theorem dX12_runner_13 : decode cX12_runner 13 = .ok (.iload_n 2, 1) := by decide +kernel
theorem dX12_runner_14 : decode cX12_runner 14 = .ok (.iconst 0, 1) := by decide +kernel
theorem dX12_runner_15 : decode cX12_runner 15 = .ok (.ldc 121, 2) := by decide +kernel
theorem dX12_runner_17 : decode cX12_runner 17 = .ok (.invokestatic 117, 3) := by decide +kernel
theorem dX12_runner_20 : decode cX12_runner 20 = .ok (.ifCond .eq 11, 3) := by decide +kernel
theorem dX12_runner_23 : decode cX12_runner 23 = .ok (.iload_n 2, 1) := by decide +kernel
theorem dX12_runner_24 : decode cX12_runner 24 = .ok (.bipush 10, 2) := by decide +kernel
theorem dX12_runner_26 : decode cX12_runner 26 = .ok (.irem, 1) := by decide +kernel
theorem dX12_runner_27 : decode cX12_runner 27 = .ok (.iconst 1, 1) := by decide +kernel
theorem dX12_runner_28 : decode cX12_runner 28 = .ok (.if_icmp .le 5, 3) := by decide +kernel
theorem dX12_runner_31 : decode cX12_runner 31 = .ok (.iconst (-1), 1) := by decide +kernel
theorem dX12_runner_32 : decode cX12_runner 32 = .ok (.ireturn, 1) := by decide +kernel
theorem dX12_runner_33 : decode cX12_runner 33 = .ok (.aload_n 0, 1) := by decide +kernel
theorem dX12_runner_34 : decode cX12_runner 34 = .ok (.getfield 122, 3) := by decide +kernel
theorem dX12_runner_37 : decode cX12_runner 37 = .ok (.bipush 20, 2) := by decide +kernel
theorem dX12_runner_39 : decode cX12_runner 39 = .ok (.if_icmp .ne 6, 3) := by decide +kernel
theorem dX12_runner_42 : decode cX12_runner 42 = .ok (.bipush (-3), 2) := by decide +kernel
theorem dX12_runner_44 : decode cX12_runner 44 = .ok (.ireturn, 1) := by decide +kernel
theorem dX12_runner_45 : decode cX12_runner 45 = .ok (.aload_n 0, 1) := by decide +kernel
theorem dX12_runner_46 : decode cX12_runner 46 = .ok (.getfield 7, 3) := by decide +kernel
theorem dX12_runner_49 : decode cX12_runner 49 = .ok (.aload_n 0, 1) := by decide +kernel
theorem dX12_runner_50 : decode cX12_runner 50 = .ok (.getfield 122, 3) := by decide +kernel
theorem dX12_runner_53 : decode cX12_runner 53 = .ok (.iload_n 1, 1) := by decide +kernel
theorem dX12_runner_54 : decode cX12_runner 54 = .ok (.iastore, 1) := by decide +kernel
theorem dX12_runner_55 : decode cX12_runner 55 = .ok (.aload_n 0, 1) := by decide +kernel
theorem dX12_runner_56 : decode cX12_runner 56 = .ok (.getfield 13, 3) := by decide +kernel
theorem dX12_runner_59 : decode cX12_runner 59 = .ok (.aload_n 0, 1) := by decide +kernel
theorem dX12_runner_60 : decode cX12_runner 60 = .ok (.getfield 122, 3) := by decide +kernel
theorem dX12_runner_63 : decode cX12_runner 63 = .ok (.iload_n 2, 1) := by decide +kernel
theorem dX12_runner_64 : decode cX12_runner 64 = .ok (.sipush 1000, 3) := by decide +kernel
theorem dX12_runner_67 : decode cX12_runner 67 = .ok (.idiv, 1) := by decide +kernel
theorem dX12_runner_68 : decode cX12_runner 68 = .ok (.bipush 50, 2) := by decide +kernel
theorem dX12_runner_70 : decode cX12_runner 70 = .ok (.isub, 1) := by decide +kernel
theorem dX12_runner_71 : decode cX12_runner 71 = .ok (.iastore, 1) := by decide +kernel
theorem dX12_runner_72 : decode cX12_runner 72 = .ok (.aload_n 0, 1) := by decide +kernel
theorem dX12_runner_73 : decode cX12_runner 73 = .ok (.getfield 16, 3) := by decide +kernel
theorem dX12_runner_76 : decode cX12_runner 76 = .ok (.aload_n 0, 1) := by decide +kernel
theorem dX12_runner_77 : decode cX12_runner 77 = .ok (.getfield 122, 3) := by decide +kernel
theorem dX12_runner_80 : decode cX12_runner 80 = .ok (.iload_n 2, 1) := by decide +kernel
theorem dX12_runner_81 : decode cX12_runner 81 = .ok (.bipush 10, 2) := by decide +kernel
theorem dX12_runner_83 : decode cX12_runner 83 = .ok (.idiv, 1) := by decide +kernel
theorem dX12_runner_84 : decode cX12_runner 84 = .ok (.bipush 100, 2) := by decide +kernel
theorem dX12_runner_86 : decode cX12_runner 86 = .ok (.irem, 1) := by decide +kernel
theorem dX12_runner_87 : decode cX12_runner 87 = .ok (.iastore, 1) := by decide +kernel
theorem dX12_runner_88 : decode cX12_runner 88 = .ok (.aload_n 0, 1) := by decide +kernel
theorem dX12_runner_89 : decode cX12_runner 89 = .ok (.getfield 19, 3) := by decide +kernel
theorem dX12_runner_92 : decode cX12_runner 92 = .ok (.aload_n 0, 1) := by decide +kernel
theorem dX12_runner_93 : decode cX12_runner 93 = .ok (.getfield 122, 3) := by decide +kernel
theorem dX12_runner_96 : decode cX12_runner 96 = .ok (.iload_n 2, 1) := by decide +kernel
theorem dX12_runner_97 : decode cX12_runner 97 = .ok (.bipush 10, 2) := by decide +kernel
theorem dX12_runner_99 : decode cX12_runner 99 = .ok (.irem, 1) := by decide +kernel
theorem dX12_runner_100 : decode cX12_runner 100 = .ok (.iastore, 1) := by decide +kernel
theorem dX12_runner_101 : decode cX12_runner 101 = .ok (.aload_n 0, 1) := by decide +kernel
theorem dX12_runner_102 : decode cX12_runner 102 = .ok (.dup, 1) := by decide +kernel
theorem dX12_runner_103 : decode cX12_runner 103 = .ok (.getfield 122, 3) := by decide +kernel
theorem dX12_runner_106 : decode cX12_runner 106 = .ok (.iconst 1, 1) := by decide +kernel
theorem dX12_runner_107 : decode cX12_runner 107 = .ok (.iadd, 1) := by decide +kernel
theorem dX12_runner_108 : decode cX12_runner 108 = .ok (.putfield 122, 3) := by decide +kernel
theorem dX12_runner_111 : decode cX12_runner 111 = .ok (.aload_n 0, 1) := by decide +kernel
theorem dX12_runner_112 : decode cX12_runner 112 = .ok (.getfield 122, 3) := by decide +kernel
theorem dX12_runner_115 : decode cX12_runner 115 = .ok (.iconst 1, 1) := by decide +kernel
theorem dX12_runner_116 : decode cX12_runner 116 = .ok (.isub, 1) := by decide +kernel
theorem dX12_runner_117 : decode cX12_runner 117 = .ok (.ireturn, 1) := by decide +kernel
theorem dX12_shoe_0 : decode cX12_shoe 0 = .ok (.iload_n 1, 1) := by decide +kernel
theorem dX12_shoe_1 : decode cX12_shoe 1 = .ok (.iconst 1, 1) := by decide +kernel
theorem dX12_shoe_2 : decode cX12_shoe 2 = .ok (.bipush 99, 2) := by decide +kernel
theorem dX12_shoe_4 : decode cX12_shoe 4 = .ok (.invokestatic 117, 3) := by decide +kernel
theorem dX12_shoe_7 : decode cX12_shoe 7 = .ok (.ifCond .eq 24, 3) := by decide +kernel
theorem dX12_shoe_10 : decode cX12_shoe 10 = .ok (.iload_n 2, 1) := by decide +kernel
theorem dX12_shoe_11 : decode cX12_shoe 11 = .ok (.bipush (-99), 2) := by decide +kernel
theorem dX12_shoe_13 : decode cX12_shoe 13 = .ok (.bipush 99, 2) := by decide +kernel
theorem dX12_shoe_15 : decode cX12_shoe 15 = .ok (.invokestatic 117, 3) := by decide +kernel
theorem dX12_shoe_18 : decode cX12_shoe 18 = .ok (.ifCond .eq 13, 3) := by decide +kernel
theorem dX12_shoe_21 : decode cX12_shoe 21 = .ok (.iload_n 3, 1) := by decide +kernel
theorem dX12_shoe_22 : decode cX12_shoe 22 = .ok (.iconst 0, 1) := by decide +kernel
theorem dX12_shoe_23 : decode cX12_shoe 23 = .ok (.bipush 99, 2) := by decide +kernel
theorem dX12_shoe_25 : decode cX12_shoe 25 = .ok (.invokestatic 117, 3) := by decide +kernel
theorem dX12_shoe_28 : decode cX12_shoe 28 = .ok (.ifCond .ne 5, 3) := by decide +kernel
theorem dX12_shoe_31 : decode cX12_shoe 31 = .ok (.iconst (-1), 1) := by decide +kernel
theorem dX12_shoe_32 : decode cX12_shoe 32 = .ok (.ireturn, 1) := by decide +kernel
theorem dX12_shoe_33 : decode cX12_shoe 33 = .ok (.aload_n 0, 1) := by decide +kernel
theorem dX12_shoe_34 : decode cX12_shoe 34 = .ok (.getfield 114, 3) := by decide +kernel
theorem dX12_shoe_37 : decode cX12_shoe 37 = .ok (.bipush 6, 2) := by decide +kernel
theorem dX12_shoe_39 : decode cX12_shoe 39 = .ok (.if_icmp .ne 6, 3) := by decide +kernel
theorem dX12_shoe_42 : decode cX12_shoe 42 = .ok (.bipush (-3), 2) := by decide +kernel
theorem dX12_shoe_44 : decode cX12_shoe 44 = .ok (.ireturn, 1) := by decide +kernel
theorem dX12_shoe_45 : decode cX12_shoe 45 = .ok (.aload_n 0, 1) := by decide +kernel
theorem dX12_shoe_46 : decode cX12_shoe 46 = .ok (.getfield 22, 3) := by decide +kernel
theorem dX12_shoe_49 : decode cX12_shoe 49 = .ok (.aload_n 0, 1) := by decide +kernel
theorem dX12_shoe_50 : decode cX12_shoe 50 = .ok (.getfield 114, 3) := by decide +kernel
theorem dX12_shoe_53 : decode cX12_shoe 53 = .ok (.iload_n 1, 1) := by decide +kernel
theorem dX12_shoe_54 : decode cX12_shoe 54 = .ok (.iastore, 1) := by decide +kernel
theorem dX12_shoe_55 : decode cX12_shoe 55 = .ok (.aload_n 0, 1) := by decide +kernel
theorem dX12_shoe_56 : decode cX12_shoe 56 = .ok (.getfield 25, 3) := by decide +kernel
theorem dX12_shoe_59 : decode cX12_shoe 59 = .ok (.aload_n 0, 1) := by decide +kernel
theorem dX12_shoe_60 : decode cX12_shoe 60 = .ok (.getfield 114, 3) := by decide +kernel
theorem dX12_shoe_63 : decode cX12_shoe 63 = .ok (.iload_n 2, 1) := by decide +kernel
theorem dX12_shoe_64 : decode cX12_shoe 64 = .ok (.iastore, 1) := by decide +kernel
theorem dX12_shoe_65 : decode cX12_shoe 65 = .ok (.aload_n 0, 1) := by decide +kernel
theorem dX12_shoe_66 : decode cX12_shoe 66 = .ok (.getfield 28, 3) := by decide +kernel
theorem dX12_shoe_69 : decode cX12_shoe 69 = .ok (.aload_n 0, 1) := by decide +kernel
theorem dX12_shoe_70 : decode cX12_shoe 70 = .ok (.getfield 114, 3) := by decide +kernel
theorem dX12_shoe_73 : decode cX12_shoe 73 = .ok (.iload_n 3, 1) := by decide +kernel
theorem dX12_shoe_74 : decode cX12_shoe 74 = .ok (.iastore, 1) := by decide +kernel
theorem dX12_shoe_75 : decode cX12_shoe 75 = .ok (.aload_n 0, 1) := by decide +kernel
theorem dX12_shoe_76 : decode cX12_shoe 76 = .ok (.dup, 1) := by decide +kernel
theorem dX12_shoe_77 : decode cX12_shoe 77 = .ok (.getfield 114, 3) := by decide +kernel
theorem dX12_shoe_80 : decode cX12_shoe 80 = .ok (.iconst 1, 1) := by decide +kernel
theorem dX12_shoe_81 : decode cX12_shoe 81 = .ok (.iadd, 1) := by decide +kernel
theorem dX12_shoe_82 : decode cX12_shoe 82 = .ok (.putfield 114, 3) := by decide +kernel
theorem dX12_shoe_85 : decode cX12_shoe 85 = .ok (.aload_n 0, 1) := by decide +kernel
theorem dX12_shoe_86 : decode cX12_shoe 86 = .ok (.getfield 114, 3) := by decide +kernel
theorem dX12_shoe_89 : decode cX12_shoe 89 = .ok (.iconst 1, 1) := by decide +kernel
theorem dX12_shoe_90 : decode cX12_shoe 90 = .ok (.isub, 1) := by decide +kernel
theorem dX12_shoe_91 : decode cX12_shoe 91 = .ok (.ireturn, 1) := by decide +kernel
theorem dX12_course_0 : decode cX12_course 0 = .ok (.iload_n 1, 1) := by decide +kernel
theorem dX12_course_1 : decode cX12_course 1 = .ok (.sipush 500, 3) := by decide +kernel
theorem dX12_course_4 : decode cX12_course 4 = .ok (.sipush 2000, 3) := by decide +kernel
theorem dX12_course_7 : decode cX12_course 7 = .ok (.invokestatic 117, 3) := by decide +kernel
theorem dX12_course_10 : decode cX12_course 10 = .ok (.ifCond .ne 5, 3) := by decide +kernel
theorem dX12_course_13 : decode cX12_course 13 = .ok (.iconst (-1), 1) := by decide +kernel
theorem dX12_course_14 : decode cX12_course 14 = .ok (.ireturn, 1) := by decide +kernel
theorem dX12_course_15 : decode cX12_course 15 = .ok (.aload_n 0, 1) := by decide +kernel
theorem dX12_course_16 : decode cX12_course 16 = .ok (.getfield 125, 3) := by decide +kernel
theorem dX12_course_19 : decode cX12_course 19 = .ok (.iconst 5, 1) := by decide +kernel
theorem dX12_course_20 : decode cX12_course 20 = .ok (.if_icmp .ne 6, 3) := by decide +kernel
theorem dX12_course_23 : decode cX12_course 23 = .ok (.bipush (-3), 2) := by decide +kernel
theorem dX12_course_25 : decode cX12_course 25 = .ok (.ireturn, 1) := by decide +kernel
theorem dX12_course_26 : decode cX12_course 26 = .ok (.aload_n 0, 1) := by decide +kernel
theorem dX12_course_27 : decode cX12_course 27 = .ok (.getfield 31, 3) := by decide +kernel
theorem dX12_course_30 : decode cX12_course 30 = .ok (.aload_n 0, 1) := by decide +kernel
theorem dX12_course_31 : decode cX12_course 31 = .ok (.getfield 125, 3) := by decide +kernel
theorem dX12_course_34 : decode cX12_course 34 = .ok (.iload_n 1, 1) := by decide +kernel
theorem dX12_course_35 : decode cX12_course 35 = .ok (.iastore, 1) := by decide +kernel
theorem dX12_course_36 : decode cX12_course 36 = .ok (.aload_n 0, 1) := by decide +kernel
theorem dX12_course_37 : decode cX12_course 37 = .ok (.dup, 1) := by decide +kernel
theorem dX12_course_38 : decode cX12_course 38 = .ok (.getfield 125, 3) := by decide +kernel
theorem dX12_course_41 : decode cX12_course 41 = .ok (.iconst 1, 1) := by decide +kernel
theorem dX12_course_42 : decode cX12_course 42 = .ok (.iadd, 1) := by decide +kernel
theorem dX12_course_43 : decode cX12_course 43 = .ok (.putfield 125, 3) := by decide +kernel
theorem dX12_course_46 : decode cX12_course 46 = .ok (.aload_n 0, 1) := by decide +kernel
theorem dX12_course_47 : decode cX12_course 47 = .ok (.getfield 125, 3) := by decide +kernel
theorem dX12_course_50 : decode cX12_course 50 = .ok (.iconst 1, 1) := by decide +kernel
theorem dX12_course_51 : decode cX12_course 51 = .ok (.isub, 1) := by decide +kernel
theorem dX12_course_52 : decode cX12_course 52 = .ok (.ireturn, 1) := by decide +kernel
theorem dX12_isRunner_0 : decode cX12_isRunner 0 = .ok (.iload_n 1, 1) := by decide +kernel
theorem dX12_isRunner_1 : decode cX12_isRunner 1 = .ok (.ifCond .lt 15, 3) := by decide +kernel
theorem dX12_isRunner_4 : decode cX12_isRunner 4 = .ok (.iload_n 1, 1) := by decide +kernel
theorem dX12_isRunner_5 : decode cX12_isRunner 5 = .ok (.aload_n 0, 1) := by decide +kernel
theorem dX12_isRunner_6 : decode cX12_isRunner 6 = .ok (.getfield 122, 3) := by decide +kernel
theorem dX12_isRunner_9 : decode cX12_isRunner 9 = .ok (.if_icmp .ge 7, 3) := by decide +kernel
theorem dX12_isRunner_12 : decode cX12_isRunner 12 = .ok (.iconst 1, 1) := by decide +kernel
theorem dX12_isRunner_13 : decode cX12_isRunner 13 = .ok (.goto 4, 3) := by decide +kernel
theorem dX12_isRunner_16 : decode cX12_isRunner 16 = .ok (.iconst 0, 1) := by decide +kernel
theorem dX12_isRunner_17 : decode cX12_isRunner 17 = .ok (.ireturn, 1) := by decide +kernel
theorem dX12_isShoe_0 : decode cX12_isShoe 0 = .ok (.iload_n 1, 1) := by decide +kernel
theorem dX12_isShoe_1 : decode cX12_isShoe 1 = .ok (.ifCond .lt 15, 3) := by decide +kernel
theorem dX12_isShoe_4 : decode cX12_isShoe 4 = .ok (.iload_n 1, 1) := by decide +kernel
theorem dX12_isShoe_5 : decode cX12_isShoe 5 = .ok (.aload_n 0, 1) := by decide +kernel
theorem dX12_isShoe_6 : decode cX12_isShoe 6 = .ok (.getfield 114, 3) := by decide +kernel
theorem dX12_isShoe_9 : decode cX12_isShoe 9 = .ok (.if_icmp .ge 7, 3) := by decide +kernel
theorem dX12_isShoe_12 : decode cX12_isShoe 12 = .ok (.iconst 1, 1) := by decide +kernel
theorem dX12_isShoe_13 : decode cX12_isShoe 13 = .ok (.goto 4, 3) := by decide +kernel
theorem dX12_isShoe_16 : decode cX12_isShoe 16 = .ok (.iconst 0, 1) := by decide +kernel
theorem dX12_isShoe_17 : decode cX12_isShoe 17 = .ok (.ireturn, 1) := by decide +kernel
theorem dX12_isCourse_0 : decode cX12_isCourse 0 = .ok (.iload_n 1, 1) := by decide +kernel
theorem dX12_isCourse_1 : decode cX12_isCourse 1 = .ok (.ifCond .lt 15, 3) := by decide +kernel
theorem dX12_isCourse_4 : decode cX12_isCourse 4 = .ok (.iload_n 1, 1) := by decide +kernel
theorem dX12_isCourse_5 : decode cX12_isCourse 5 = .ok (.aload_n 0, 1) := by decide +kernel
theorem dX12_isCourse_6 : decode cX12_isCourse 6 = .ok (.getfield 125, 3) := by decide +kernel
theorem dX12_isCourse_9 : decode cX12_isCourse 9 = .ok (.if_icmp .ge 7, 3) := by decide +kernel
theorem dX12_isCourse_12 : decode cX12_isCourse 12 = .ok (.iconst 1, 1) := by decide +kernel
theorem dX12_isCourse_13 : decode cX12_isCourse 13 = .ok (.goto 4, 3) := by decide +kernel
theorem dX12_isCourse_16 : decode cX12_isCourse 16 = .ok (.iconst 0, 1) := by decide +kernel
theorem dX12_isCourse_17 : decode cX12_isCourse 17 = .ok (.ireturn, 1) := by decide +kernel
theorem dX12_isRun_0 : decode cX12_isRun 0 = .ok (.iload_n 1, 1) := by decide +kernel
theorem dX12_isRun_1 : decode cX12_isRun 1 = .ok (.ifCond .lt 15, 3) := by decide +kernel
theorem dX12_isRun_4 : decode cX12_isRun 4 = .ok (.iload_n 1, 1) := by decide +kernel
theorem dX12_isRun_5 : decode cX12_isRun 5 = .ok (.aload_n 0, 1) := by decide +kernel
theorem dX12_isRun_6 : decode cX12_isRun 6 = .ok (.getfield 128, 3) := by decide +kernel
theorem dX12_isRun_9 : decode cX12_isRun 9 = .ok (.if_icmp .ge 7, 3) := by decide +kernel
theorem dX12_isRun_12 : decode cX12_isRun 12 = .ok (.iconst 1, 1) := by decide +kernel
theorem dX12_isRun_13 : decode cX12_isRun 13 = .ok (.goto 4, 3) := by decide +kernel
theorem dX12_isRun_16 : decode cX12_isRun 16 = .ok (.iconst 0, 1) := by decide +kernel
theorem dX12_isRun_17 : decode cX12_isRun 17 = .ok (.ireturn, 1) := by decide +kernel
theorem dX12_mayRun_0 : decode cX12_mayRun 0 = .ok (.aload_n 0, 1) := by decide +kernel
theorem dX12_mayRun_1 : decode cX12_mayRun 1 = .ok (.iload_n 1, 1) := by decide +kernel
theorem dX12_mayRun_2 : decode cX12_mayRun 2 = .ok (.invokevirtual 131, 3) := by decide +kernel
theorem dX12_mayRun_5 : decode cX12_mayRun 5 = .ok (.ifCond .eq 53, 3) := by decide +kernel
theorem dX12_mayRun_8 : decode cX12_mayRun 8 = .ok (.aload_n 0, 1) := by decide +kernel
theorem dX12_mayRun_9 : decode cX12_mayRun 9 = .ok (.iload_n 2, 1) := by decide +kernel
theorem dX12_mayRun_10 : decode cX12_mayRun 10 = .ok (.invokevirtual 135, 3) := by decide +kernel
theorem dX12_mayRun_13 : decode cX12_mayRun 13 = .ok (.ifCond .eq 45, 3) := by decide +kernel
theorem dX12_mayRun_16 : decode cX12_mayRun 16 = .ok (.iload_n 3, 1) := by decide +kernel
theorem dX12_mayRun_17 : decode cX12_mayRun 17 = .ok (.iconst 0, 1) := by decide +kernel
theorem dX12_mayRun_18 : decode cX12_mayRun 18 = .ok (.bipush 99, 2) := by decide +kernel
theorem dX12_mayRun_20 : decode cX12_mayRun 20 = .ok (.invokestatic 117, 3) := by decide +kernel
theorem dX12_mayRun_23 : decode cX12_mayRun 23 = .ok (.ifCond .eq 35, 3) := by decide +kernel
theorem dX12_mayRun_26 : decode cX12_mayRun 26 = .ok (.iload 4, 2) := by decide +kernel
theorem dX12_mayRun_28 : decode cX12_mayRun 28 = .ok (.bipush 10, 2) := by decide +kernel
theorem dX12_mayRun_30 : decode cX12_mayRun 30 = .ok (.sipush 29999, 3) := by decide +kernel
theorem dX12_mayRun_33 : decode cX12_mayRun 33 = .ok (.invokestatic 117, 3) := by decide +kernel
theorem dX12_mayRun_36 : decode cX12_mayRun 36 = .ok (.ifCond .eq 22, 3) := by decide +kernel
theorem dX12_mayRun_39 : decode cX12_mayRun 39 = .ok (.iload 5, 2) := by decide +kernel
theorem dX12_mayRun_41 : decode cX12_mayRun 41 = .ok (.iconst (-1), 1) := by decide +kernel
theorem dX12_mayRun_42 : decode cX12_mayRun 42 = .ok (.if_icmp .eq 12, 3) := by decide +kernel
theorem dX12_mayRun_45 : decode cX12_mayRun 45 = .ok (.aload_n 0, 1) := by decide +kernel
theorem dX12_mayRun_46 : decode cX12_mayRun 46 = .ok (.iload 5, 2) := by decide +kernel
theorem dX12_mayRun_48 : decode cX12_mayRun 48 = .ok (.invokevirtual 138, 3) := by decide +kernel
theorem dX12_mayRun_51 : decode cX12_mayRun 51 = .ok (.ifCond .eq 7, 3) := by decide +kernel
theorem dX12_mayRun_54 : decode cX12_mayRun 54 = .ok (.iconst 1, 1) := by decide +kernel
theorem dX12_mayRun_55 : decode cX12_mayRun 55 = .ok (.goto 4, 3) := by decide +kernel
theorem dX12_mayRun_58 : decode cX12_mayRun 58 = .ok (.iconst 0, 1) := by decide +kernel
theorem dX12_mayRun_59 : decode cX12_mayRun 59 = .ok (.ireturn, 1) := by decide +kernel
theorem dX12_comes_0 : decode cX12_comes 0 = .ok (.aload_n 0, 1) := by decide +kernel
theorem dX12_comes_1 : decode cX12_comes 1 = .ok (.getfield 34, 3) := by decide +kernel
theorem dX12_comes_4 : decode cX12_comes 4 = .ok (.aload_n 0, 1) := by decide +kernel
theorem dX12_comes_5 : decode cX12_comes 5 = .ok (.getfield 128, 3) := by decide +kernel
theorem dX12_comes_8 : decode cX12_comes 8 = .ok (.iload_n 1, 1) := by decide +kernel
theorem dX12_comes_9 : decode cX12_comes 9 = .ok (.iastore, 1) := by decide +kernel
theorem dX12_comes_10 : decode cX12_comes 10 = .ok (.aload_n 0, 1) := by decide +kernel
theorem dX12_comes_11 : decode cX12_comes 11 = .ok (.getfield 37, 3) := by decide +kernel
theorem dX12_comes_14 : decode cX12_comes 14 = .ok (.aload_n 0, 1) := by decide +kernel
theorem dX12_comes_15 : decode cX12_comes 15 = .ok (.getfield 128, 3) := by decide +kernel
theorem dX12_comes_18 : decode cX12_comes 18 = .ok (.iload_n 2, 1) := by decide +kernel
theorem dX12_comes_19 : decode cX12_comes 19 = .ok (.iastore, 1) := by decide +kernel
theorem dX12_comes_20 : decode cX12_comes 20 = .ok (.aload_n 0, 1) := by decide +kernel
theorem dX12_comes_21 : decode cX12_comes 21 = .ok (.getfield 40, 3) := by decide +kernel
theorem dX12_comes_24 : decode cX12_comes 24 = .ok (.aload_n 0, 1) := by decide +kernel
theorem dX12_comes_25 : decode cX12_comes 25 = .ok (.getfield 128, 3) := by decide +kernel
theorem dX12_comes_28 : decode cX12_comes 28 = .ok (.iload_n 3, 1) := by decide +kernel
theorem dX12_comes_29 : decode cX12_comes 29 = .ok (.iastore, 1) := by decide +kernel
theorem dX12_comes_30 : decode cX12_comes 30 = .ok (.aload_n 0, 1) := by decide +kernel
theorem dX12_comes_31 : decode cX12_comes 31 = .ok (.getfield 43, 3) := by decide +kernel
theorem dX12_comes_34 : decode cX12_comes 34 = .ok (.aload_n 0, 1) := by decide +kernel
theorem dX12_comes_35 : decode cX12_comes 35 = .ok (.getfield 128, 3) := by decide +kernel
theorem dX12_comes_38 : decode cX12_comes 38 = .ok (.iload 4, 2) := by decide +kernel
theorem dX12_comes_40 : decode cX12_comes 40 = .ok (.iastore, 1) := by decide +kernel
theorem dX12_comes_41 : decode cX12_comes 41 = .ok (.aload_n 0, 1) := by decide +kernel
theorem dX12_comes_42 : decode cX12_comes 42 = .ok (.getfield 46, 3) := by decide +kernel
theorem dX12_comes_45 : decode cX12_comes 45 = .ok (.aload_n 0, 1) := by decide +kernel
theorem dX12_comes_46 : decode cX12_comes 46 = .ok (.getfield 128, 3) := by decide +kernel
theorem dX12_comes_49 : decode cX12_comes 49 = .ok (.iload 5, 2) := by decide +kernel
theorem dX12_comes_51 : decode cX12_comes 51 = .ok (.iastore, 1) := by decide +kernel
theorem dX12_comes_52 : decode cX12_comes 52 = .ok (.aload_n 0, 1) := by decide +kernel
theorem dX12_comes_53 : decode cX12_comes 53 = .ok (.dup, 1) := by decide +kernel
theorem dX12_comes_54 : decode cX12_comes 54 = .ok (.getfield 128, 3) := by decide +kernel
theorem dX12_comes_57 : decode cX12_comes 57 = .ok (.iconst 1, 1) := by decide +kernel
theorem dX12_comes_58 : decode cX12_comes 58 = .ok (.iadd, 1) := by decide +kernel
theorem dX12_comes_59 : decode cX12_comes 59 = .ok (.putfield 128, 3) := by decide +kernel
theorem dX12_comes_62 : decode cX12_comes 62 = .ok (.return_, 1) := by decide +kernel
theorem dX12_ran_0 : decode cX12_ran 0 = .ok (.iload_n 1, 1) := by decide +kernel
theorem dX12_ran_1 : decode cX12_ran 1 = .ok (.ifCond .lt 33, 3) := by decide +kernel
theorem dX12_ran_4 : decode cX12_ran 4 = .ok (.iload_n 2, 1) := by decide +kernel
theorem dX12_ran_5 : decode cX12_ran 5 = .ok (.ifCond .lt 29, 3) := by decide +kernel
theorem dX12_ran_8 : decode cX12_ran 8 = .ok (.aload_n 0, 1) := by decide +kernel
theorem dX12_ran_9 : decode cX12_ran 9 = .ok (.iload_n 1, 1) := by decide +kernel
theorem dX12_ran_10 : decode cX12_ran 10 = .ok (.bipush 100, 2) := by decide +kernel
theorem dX12_ran_12 : decode cX12_ran 12 = .ok (.idiv, 1) := by decide +kernel
theorem dX12_ran_13 : decode cX12_ran 13 = .ok (.iload_n 1, 1) := by decide +kernel
theorem dX12_ran_14 : decode cX12_ran 14 = .ok (.bipush 100, 2) := by decide +kernel
theorem dX12_ran_16 : decode cX12_ran 16 = .ok (.irem, 1) := by decide +kernel
theorem dX12_ran_17 : decode cX12_ran 17 = .ok (.iload_n 2, 1) := by decide +kernel
theorem dX12_ran_18 : decode cX12_ran 18 = .ok (.bipush 10, 2) := by decide +kernel
theorem dX12_ran_20 : decode cX12_ran 20 = .ok (.idiv, 1) := by decide +kernel
theorem dX12_ran_21 : decode cX12_ran 21 = .ok (.iload_n 3, 1) := by decide +kernel
theorem dX12_ran_22 : decode cX12_ran 22 = .ok (.iload_n 2, 1) := by decide +kernel
theorem dX12_ran_23 : decode cX12_ran 23 = .ok (.bipush 10, 2) := by decide +kernel
theorem dX12_ran_25 : decode cX12_ran 25 = .ok (.irem, 1) := by decide +kernel
theorem dX12_ran_26 : decode cX12_ran 26 = .ok (.iconst 1, 1) := by decide +kernel
theorem dX12_ran_27 : decode cX12_ran 27 = .ok (.isub, 1) := by decide +kernel
theorem dX12_ran_28 : decode cX12_ran 28 = .ok (.invokevirtual 141, 3) := by decide +kernel
theorem dX12_ran_31 : decode cX12_ran 31 = .ok (.ifCond .ne 5, 3) := by decide +kernel
theorem dX12_ran_34 : decode cX12_ran 34 = .ok (.iconst (-1), 1) := by decide +kernel
theorem dX12_ran_35 : decode cX12_ran 35 = .ok (.ireturn, 1) := by decide +kernel
theorem dX12_ran_36 : decode cX12_ran 36 = .ok (.aload_n 0, 1) := by decide +kernel
theorem dX12_ran_37 : decode cX12_ran 37 = .ok (.getfield 128, 3) := by decide +kernel
theorem dX12_ran_40 : decode cX12_ran 40 = .ok (.bipush 120, 2) := by decide +kernel
theorem dX12_ran_42 : decode cX12_ran 42 = .ok (.if_icmp .ne 6, 3) := by decide +kernel
theorem dX12_ran_45 : decode cX12_ran 45 = .ok (.bipush (-3), 2) := by decide +kernel
theorem dX12_ran_47 : decode cX12_ran 47 = .ok (.ireturn, 1) := by decide +kernel
theorem dX12_ran_48 : decode cX12_ran 48 = .ok (.aload_n 0, 1) := by decide +kernel
theorem dX12_ran_49 : decode cX12_ran 49 = .ok (.iload_n 1, 1) := by decide +kernel
theorem dX12_ran_50 : decode cX12_ran 50 = .ok (.bipush 100, 2) := by decide +kernel
theorem dX12_ran_52 : decode cX12_ran 52 = .ok (.idiv, 1) := by decide +kernel
theorem dX12_ran_53 : decode cX12_ran 53 = .ok (.iload_n 1, 1) := by decide +kernel
theorem dX12_ran_54 : decode cX12_ran 54 = .ok (.bipush 100, 2) := by decide +kernel
theorem dX12_ran_56 : decode cX12_ran 56 = .ok (.irem, 1) := by decide +kernel
theorem dX12_ran_57 : decode cX12_ran 57 = .ok (.iload_n 2, 1) := by decide +kernel
theorem dX12_ran_58 : decode cX12_ran 58 = .ok (.bipush 10, 2) := by decide +kernel
theorem dX12_ran_60 : decode cX12_ran 60 = .ok (.idiv, 1) := by decide +kernel
theorem dX12_ran_61 : decode cX12_ran 61 = .ok (.iload_n 3, 1) := by decide +kernel
theorem dX12_ran_62 : decode cX12_ran 62 = .ok (.iload_n 2, 1) := by decide +kernel
theorem dX12_ran_63 : decode cX12_ran 63 = .ok (.bipush 10, 2) := by decide +kernel
theorem dX12_ran_65 : decode cX12_ran 65 = .ok (.irem, 1) := by decide +kernel
theorem dX12_ran_66 : decode cX12_ran 66 = .ok (.iconst 1, 1) := by decide +kernel
theorem dX12_ran_67 : decode cX12_ran 67 = .ok (.isub, 1) := by decide +kernel
theorem dX12_ran_68 : decode cX12_ran 68 = .ok (.invokevirtual 145, 3) := by decide +kernel
theorem dX12_ran_71 : decode cX12_ran 71 = .ok (.aload_n 0, 1) := by decide +kernel
theorem dX12_ran_72 : decode cX12_ran 72 = .ok (.getfield 128, 3) := by decide +kernel
theorem dX12_ran_75 : decode cX12_ran 75 = .ok (.iconst 1, 1) := by decide +kernel
theorem dX12_ran_76 : decode cX12_ran 76 = .ok (.isub, 1) := by decide +kernel
theorem dX12_ran_77 : decode cX12_ran 77 = .ok (.ireturn, 1) := by decide +kernel
theorem dX12_level_0 : decode cX12_level 0 = .ok (.aload_n 0, 1) := by decide +kernel
theorem dX12_level_1 : decode cX12_level 1 = .ok (.getfield 43, 3) := by decide +kernel
theorem dX12_level_4 : decode cX12_level 4 = .ok (.iload_n 1, 1) := by decide +kernel
theorem dX12_level_5 : decode cX12_level 5 = .ok (.iaload, 1) := by decide +kernel
theorem dX12_level_6 : decode cX12_level 6 = .ok (.sipush 1000, 3) := by decide +kernel
theorem dX12_level_9 : decode cX12_level 9 = .ok (.imul, 1) := by decide +kernel
theorem dX12_level_10 : decode cX12_level 10 = .ok (.aload_n 0, 1) := by decide +kernel
theorem dX12_level_11 : decode cX12_level 11 = .ok (.getfield 31, 3) := by decide +kernel
theorem dX12_level_14 : decode cX12_level 14 = .ok (.aload_n 0, 1) := by decide +kernel
theorem dX12_level_15 : decode cX12_level 15 = .ok (.getfield 37, 3) := by decide +kernel
theorem dX12_level_18 : decode cX12_level 18 = .ok (.iload_n 1, 1) := by decide +kernel
theorem dX12_level_19 : decode cX12_level 19 = .ok (.iaload, 1) := by decide +kernel
theorem dX12_level_20 : decode cX12_level 20 = .ok (.iaload, 1) := by decide +kernel
theorem dX12_level_21 : decode cX12_level 21 = .ok (.idiv, 1) := by decide +kernel
theorem dX12_level_22 : decode cX12_level 22 = .ok (.ireturn, 1) := by decide +kernel
theorem dX12_formThen_0 : decode cX12_formThen 0 = .ok (.aload_n 0, 1) := by decide +kernel
theorem dX12_formThen_1 : decode cX12_formThen 1 = .ok (.getfield 7, 3) := by decide +kernel
theorem dX12_formThen_4 : decode cX12_formThen 4 = .ok (.iload_n 1, 1) := by decide +kernel
theorem dX12_formThen_5 : decode cX12_formThen 5 = .ok (.iaload, 1) := by decide +kernel
theorem dX12_formThen_6 : decode cX12_formThen 6 = .ok (.aload_n 0, 1) := by decide +kernel
theorem dX12_formThen_7 : decode cX12_formThen 7 = .ok (.getfield 13, 3) := by decide +kernel
theorem dX12_formThen_10 : decode cX12_formThen 10 = .ok (.iload_n 1, 1) := by decide +kernel
theorem dX12_formThen_11 : decode cX12_formThen 11 = .ok (.iaload, 1) := by decide +kernel
theorem dX12_formThen_12 : decode cX12_formThen 12 = .ok (.iload_n 2, 1) := by decide +kernel
theorem dX12_formThen_13 : decode cX12_formThen 13 = .ok (.imul, 1) := by decide +kernel
theorem dX12_formThen_14 : decode cX12_formThen 14 = .ok (.iadd, 1) := by decide +kernel
theorem dX12_formThen_15 : decode cX12_formThen 15 = .ok (.istore_n 3, 1) := by decide +kernel
theorem dX12_formThen_16 : decode cX12_formThen 16 = .ok (.iload_n 3, 1) := by decide +kernel
theorem dX12_formThen_17 : decode cX12_formThen 17 = .ok (.sipush 600, 3) := by decide +kernel
theorem dX12_formThen_20 : decode cX12_formThen 20 = .ok (.if_icmp .ge 9, 3) := by decide +kernel
theorem dX12_formThen_23 : decode cX12_formThen 23 = .ok (.sipush 600, 3) := by decide +kernel
theorem dX12_formThen_26 : decode cX12_formThen 26 = .ok (.goto 4, 3) := by decide +kernel
theorem dX12_formThen_29 : decode cX12_formThen 29 = .ok (.iload_n 3, 1) := by decide +kernel
theorem dX12_formThen_30 : decode cX12_formThen 30 = .ok (.ireturn, 1) := by decide +kernel
theorem dX12_oldMinutes_0 : decode cX12_oldMinutes 0 = .ok (.aload_n 0, 1) := by decide +kernel
theorem dX12_oldMinutes_1 : decode cX12_oldMinutes 1 = .ok (.getfield 46, 3) := by decide +kernel
theorem dX12_oldMinutes_4 : decode cX12_oldMinutes 4 = .ok (.iload_n 1, 1) := by decide +kernel
theorem dX12_oldMinutes_5 : decode cX12_oldMinutes 5 = .ok (.iaload, 1) := by decide +kernel
theorem dX12_oldMinutes_6 : decode cX12_oldMinutes 6 = .ok (.ifCond .ge 12, 3) := by decide +kernel
theorem dX12_oldMinutes_9 : decode cX12_oldMinutes 9 = .ok (.aload_n 0, 1) := by decide +kernel
theorem dX12_oldMinutes_10 : decode cX12_oldMinutes 10 = .ok (.getfield 43, 3) := by decide +kernel
theorem dX12_oldMinutes_13 : decode cX12_oldMinutes 13 = .ok (.iload_n 1, 1) := by decide +kernel
theorem dX12_oldMinutes_14 : decode cX12_oldMinutes 14 = .ok (.iaload, 1) := by decide +kernel
theorem dX12_oldMinutes_15 : decode cX12_oldMinutes 15 = .ok (.goto 29, 3) := by decide +kernel
theorem dX12_oldMinutes_18 : decode cX12_oldMinutes 18 = .ok (.aload_n 0, 1) := by decide +kernel
theorem dX12_oldMinutes_19 : decode cX12_oldMinutes 19 = .ok (.getfield 43, 3) := by decide +kernel
theorem dX12_oldMinutes_22 : decode cX12_oldMinutes 22 = .ok (.iload_n 1, 1) := by decide +kernel
theorem dX12_oldMinutes_23 : decode cX12_oldMinutes 23 = .ok (.iaload, 1) := by decide +kernel
theorem dX12_oldMinutes_24 : decode cX12_oldMinutes 24 = .ok (.sipush 1000, 3) := by decide +kernel
theorem dX12_oldMinutes_27 : decode cX12_oldMinutes 27 = .ok (.imul, 1) := by decide +kernel
theorem dX12_oldMinutes_28 : decode cX12_oldMinutes 28 = .ok (.sipush 1000, 3) := by decide +kernel
theorem dX12_oldMinutes_31 : decode cX12_oldMinutes 31 = .ok (.aload_n 0, 1) := by decide +kernel
theorem dX12_oldMinutes_32 : decode cX12_oldMinutes 32 = .ok (.getfield 25, 3) := by decide +kernel
theorem dX12_oldMinutes_35 : decode cX12_oldMinutes 35 = .ok (.aload_n 0, 1) := by decide +kernel
theorem dX12_oldMinutes_36 : decode cX12_oldMinutes 36 = .ok (.getfield 46, 3) := by decide +kernel
theorem dX12_oldMinutes_39 : decode cX12_oldMinutes 39 = .ok (.iload_n 1, 1) := by decide +kernel
theorem dX12_oldMinutes_40 : decode cX12_oldMinutes 40 = .ok (.iaload, 1) := by decide +kernel
theorem dX12_oldMinutes_41 : decode cX12_oldMinutes 41 = .ok (.iaload, 1) := by decide +kernel
theorem dX12_oldMinutes_42 : decode cX12_oldMinutes 42 = .ok (.isub, 1) := by decide +kernel
theorem dX12_oldMinutes_43 : decode cX12_oldMinutes 43 = .ok (.idiv, 1) := by decide +kernel
theorem dX12_oldMinutes_44 : decode cX12_oldMinutes 44 = .ok (.ireturn, 1) := by decide +kernel
theorem dX12_isAhead_0 : decode cX12_isAhead 0 = .ok (.aload_n 0, 1) := by decide +kernel
theorem dX12_isAhead_1 : decode cX12_isAhead 1 = .ok (.getfield 40, 3) := by decide +kernel
theorem dX12_isAhead_4 : decode cX12_isAhead 4 = .ok (.iload_n 1, 1) := by decide +kernel
theorem dX12_isAhead_5 : decode cX12_isAhead 5 = .ok (.iaload, 1) := by decide +kernel
theorem dX12_isAhead_6 : decode cX12_isAhead 6 = .ok (.aload_n 0, 1) := by decide +kernel
theorem dX12_isAhead_7 : decode cX12_isAhead 7 = .ok (.getfield 40, 3) := by decide +kernel
theorem dX12_isAhead_10 : decode cX12_isAhead 10 = .ok (.iload_n 2, 1) := by decide +kernel
theorem dX12_isAhead_11 : decode cX12_isAhead 11 = .ok (.iaload, 1) := by decide +kernel
theorem dX12_isAhead_12 : decode cX12_isAhead 12 = .ok (.if_icmp .lt 23, 3) := by decide +kernel
theorem dX12_isAhead_15 : decode cX12_isAhead 15 = .ok (.aload_n 0, 1) := by decide +kernel
theorem dX12_isAhead_16 : decode cX12_isAhead 16 = .ok (.getfield 40, 3) := by decide +kernel
theorem dX12_isAhead_19 : decode cX12_isAhead 19 = .ok (.iload_n 1, 1) := by decide +kernel
theorem dX12_isAhead_20 : decode cX12_isAhead 20 = .ok (.iaload, 1) := by decide +kernel
theorem dX12_isAhead_21 : decode cX12_isAhead 21 = .ok (.aload_n 0, 1) := by decide +kernel
theorem dX12_isAhead_22 : decode cX12_isAhead 22 = .ok (.getfield 40, 3) := by decide +kernel
theorem dX12_isAhead_25 : decode cX12_isAhead 25 = .ok (.iload_n 2, 1) := by decide +kernel
theorem dX12_isAhead_26 : decode cX12_isAhead 26 = .ok (.iaload, 1) := by decide +kernel
theorem dX12_isAhead_27 : decode cX12_isAhead 27 = .ok (.if_icmp .ne 12, 3) := by decide +kernel
theorem dX12_isAhead_30 : decode cX12_isAhead 30 = .ok (.iload_n 1, 1) := by decide +kernel
theorem dX12_isAhead_31 : decode cX12_isAhead 31 = .ok (.iload_n 2, 1) := by decide +kernel
theorem dX12_isAhead_32 : decode cX12_isAhead 32 = .ok (.if_icmp .ge 7, 3) := by decide +kernel
theorem dX12_isAhead_35 : decode cX12_isAhead 35 = .ok (.iconst 1, 1) := by decide +kernel
theorem dX12_isAhead_36 : decode cX12_isAhead 36 = .ok (.goto 4, 3) := by decide +kernel
theorem dX12_isAhead_39 : decode cX12_isAhead 39 = .ok (.iconst 0, 1) := by decide +kernel
theorem dX12_isAhead_40 : decode cX12_isAhead 40 = .ok (.ireturn, 1) := by decide +kernel
theorem dX12_whichOf_0 : decode cX12_whichOf 0 = .ok (.aload_n 0, 1) := by decide +kernel
theorem dX12_whichOf_1 : decode cX12_whichOf 1 = .ok (.getfield 46, 3) := by decide +kernel
theorem dX12_whichOf_4 : decode cX12_whichOf 4 = .ok (.iload_n 1, 1) := by decide +kernel
theorem dX12_whichOf_5 : decode cX12_whichOf 5 = .ok (.iaload, 1) := by decide +kernel
theorem dX12_whichOf_6 : decode cX12_whichOf 6 = .ok (.ifCond .ge 5, 3) := by decide +kernel
theorem dX12_whichOf_9 : decode cX12_whichOf 9 = .ok (.iconst (-1), 1) := by decide +kernel
theorem dX12_whichOf_10 : decode cX12_whichOf 10 = .ok (.ireturn, 1) := by decide +kernel
theorem dX12_whichOf_11 : decode cX12_whichOf 11 = .ok (.iconst 0, 1) := by decide +kernel
theorem dX12_whichOf_12 : decode cX12_whichOf 12 = .ok (.istore_n 2, 1) := by decide +kernel
theorem dX12_whichOf_13 : decode cX12_whichOf 13 = .ok (.iconst 0, 1) := by decide +kernel
theorem dX12_whichOf_14 : decode cX12_whichOf 14 = .ok (.istore_n 3, 1) := by decide +kernel
theorem dX12_whichOf_15 : decode cX12_whichOf 15 = .ok (.iload_n 3, 1) := by decide +kernel
theorem dX12_whichOf_16 : decode cX12_whichOf 16 = .ok (.aload_n 0, 1) := by decide +kernel
theorem dX12_whichOf_17 : decode cX12_whichOf 17 = .ok (.getfield 128, 3) := by decide +kernel
theorem dX12_whichOf_20 : decode cX12_whichOf 20 = .ok (.if_icmp .ge 56, 3) := by decide +kernel
theorem dX12_whichOf_23 : decode cX12_whichOf 23 = .ok (.iload_n 2, 1) := by decide +kernel
theorem dX12_whichOf_24 : decode cX12_whichOf 24 = .ok (.aload_n 0, 1) := by decide +kernel
theorem dX12_whichOf_25 : decode cX12_whichOf 25 = .ok (.getfield 34, 3) := by decide +kernel
theorem dX12_whichOf_28 : decode cX12_whichOf 28 = .ok (.iload_n 3, 1) := by decide +kernel
theorem dX12_whichOf_29 : decode cX12_whichOf 29 = .ok (.iaload, 1) := by decide +kernel
theorem dX12_whichOf_30 : decode cX12_whichOf 30 = .ok (.aload_n 0, 1) := by decide +kernel
theorem dX12_whichOf_31 : decode cX12_whichOf 31 = .ok (.getfield 34, 3) := by decide +kernel
theorem dX12_whichOf_34 : decode cX12_whichOf 34 = .ok (.iload_n 1, 1) := by decide +kernel
theorem dX12_whichOf_35 : decode cX12_whichOf 35 = .ok (.iaload, 1) := by decide +kernel
theorem dX12_whichOf_36 : decode cX12_whichOf 36 = .ok (.if_icmp .ne 31, 3) := by decide +kernel
theorem dX12_whichOf_39 : decode cX12_whichOf 39 = .ok (.aload_n 0, 1) := by decide +kernel
theorem dX12_whichOf_40 : decode cX12_whichOf 40 = .ok (.getfield 46, 3) := by decide +kernel
theorem dX12_whichOf_43 : decode cX12_whichOf 43 = .ok (.iload_n 3, 1) := by decide +kernel
theorem dX12_whichOf_44 : decode cX12_whichOf 44 = .ok (.iaload, 1) := by decide +kernel
theorem dX12_whichOf_45 : decode cX12_whichOf 45 = .ok (.aload_n 0, 1) := by decide +kernel
theorem dX12_whichOf_46 : decode cX12_whichOf 46 = .ok (.getfield 46, 3) := by decide +kernel
theorem dX12_whichOf_49 : decode cX12_whichOf 49 = .ok (.iload_n 1, 1) := by decide +kernel
theorem dX12_whichOf_50 : decode cX12_whichOf 50 = .ok (.iaload, 1) := by decide +kernel
theorem dX12_whichOf_51 : decode cX12_whichOf 51 = .ok (.if_icmp .ne 16, 3) := by decide +kernel
theorem dX12_whichOf_54 : decode cX12_whichOf 54 = .ok (.aload_n 0, 1) := by decide +kernel
theorem dX12_whichOf_55 : decode cX12_whichOf 55 = .ok (.iload_n 3, 1) := by decide +kernel
theorem dX12_whichOf_56 : decode cX12_whichOf 56 = .ok (.iload_n 1, 1) := by decide +kernel
theorem dX12_whichOf_57 : decode cX12_whichOf 57 = .ok (.invokevirtual 149, 3) := by decide +kernel
theorem dX12_whichOf_60 : decode cX12_whichOf 60 = .ok (.ifCond .eq 7, 3) := by decide +kernel
theorem dX12_whichOf_63 : decode cX12_whichOf 63 = .ok (.iconst 1, 1) := by decide +kernel
theorem dX12_whichOf_64 : decode cX12_whichOf 64 = .ok (.goto 4, 3) := by decide +kernel
theorem dX12_whichOf_67 : decode cX12_whichOf 67 = .ok (.iconst 0, 1) := by decide +kernel
theorem dX12_whichOf_68 : decode cX12_whichOf 68 = .ok (.iadd, 1) := by decide +kernel
theorem dX12_whichOf_69 : decode cX12_whichOf 69 = .ok (.istore_n 2, 1) := by decide +kernel
theorem dX12_whichOf_70 : decode cX12_whichOf 70 = .ok (.iinc 3 1, 3) := by decide +kernel
theorem dX12_whichOf_73 : decode cX12_whichOf 73 = .ok (.goto (-58), 3) := by decide +kernel
theorem dX12_whichOf_76 : decode cX12_whichOf 76 = .ok (.iload_n 2, 1) := by decide +kernel
theorem dX12_whichOf_77 : decode cX12_whichOf 77 = .ok (.ireturn, 1) := by decide +kernel
theorem dX12_of_0 : decode cX12_of 0 = .ok (.aload_n 0, 1) := by decide +kernel
theorem dX12_of_1 : decode cX12_of 1 = .ok (.iload_n 1, 1) := by decide +kernel
theorem dX12_of_2 : decode cX12_of 2 = .ok (.invokevirtual 153, 3) := by decide +kernel
theorem dX12_of_5 : decode cX12_of 5 = .ok (.ifCond .ne 6, 3) := by decide +kernel
theorem dX12_of_8 : decode cX12_of 8 = .ok (.ldc 156, 2) := by decide +kernel
theorem dX12_of_10 : decode cX12_of 10 = .ok (.ireturn, 1) := by decide +kernel
theorem dX12_of_11 : decode cX12_of 11 = .ok (.iload_n 2, 1) := by decide +kernel
theorem dX12_of_12 : decode cX12_of 12 = .ok (.tableswitch 101 0 7 #[48, 55, 62, 69, 76, 83, 89, 95], 48) := by decide +kernel
theorem dX12_of_60 : decode cX12_of 60 = .ok (.aload_n 0, 1) := by decide +kernel
theorem dX12_of_61 : decode cX12_of 61 = .ok (.getfield 34, 3) := by decide +kernel
theorem dX12_of_64 : decode cX12_of 64 = .ok (.iload_n 1, 1) := by decide +kernel
theorem dX12_of_65 : decode cX12_of 65 = .ok (.iaload, 1) := by decide +kernel
theorem dX12_of_66 : decode cX12_of 66 = .ok (.ireturn, 1) := by decide +kernel
theorem dX12_of_67 : decode cX12_of 67 = .ok (.aload_n 0, 1) := by decide +kernel
theorem dX12_of_68 : decode cX12_of 68 = .ok (.getfield 37, 3) := by decide +kernel
theorem dX12_of_71 : decode cX12_of 71 = .ok (.iload_n 1, 1) := by decide +kernel
theorem dX12_of_72 : decode cX12_of 72 = .ok (.iaload, 1) := by decide +kernel
theorem dX12_of_73 : decode cX12_of 73 = .ok (.ireturn, 1) := by decide +kernel
theorem dX12_of_74 : decode cX12_of 74 = .ok (.aload_n 0, 1) := by decide +kernel
theorem dX12_of_75 : decode cX12_of 75 = .ok (.getfield 40, 3) := by decide +kernel
theorem dX12_of_78 : decode cX12_of 78 = .ok (.iload_n 1, 1) := by decide +kernel
theorem dX12_of_79 : decode cX12_of 79 = .ok (.iaload, 1) := by decide +kernel
theorem dX12_of_80 : decode cX12_of 80 = .ok (.ireturn, 1) := by decide +kernel
theorem dX12_of_81 : decode cX12_of 81 = .ok (.aload_n 0, 1) := by decide +kernel
theorem dX12_of_82 : decode cX12_of 82 = .ok (.getfield 43, 3) := by decide +kernel
theorem dX12_of_85 : decode cX12_of 85 = .ok (.iload_n 1, 1) := by decide +kernel
theorem dX12_of_86 : decode cX12_of 86 = .ok (.iaload, 1) := by decide +kernel
theorem dX12_of_87 : decode cX12_of 87 = .ok (.ireturn, 1) := by decide +kernel
theorem dX12_of_88 : decode cX12_of 88 = .ok (.aload_n 0, 1) := by decide +kernel
theorem dX12_of_89 : decode cX12_of 89 = .ok (.getfield 46, 3) := by decide +kernel
theorem dX12_of_92 : decode cX12_of 92 = .ok (.iload_n 1, 1) := by decide +kernel
theorem dX12_of_93 : decode cX12_of 93 = .ok (.iaload, 1) := by decide +kernel
theorem dX12_of_94 : decode cX12_of 94 = .ok (.ireturn, 1) := by decide +kernel
theorem dX12_of_95 : decode cX12_of 95 = .ok (.aload_n 0, 1) := by decide +kernel
theorem dX12_of_96 : decode cX12_of 96 = .ok (.iload_n 1, 1) := by decide +kernel
theorem dX12_of_97 : decode cX12_of 97 = .ok (.invokevirtual 157, 3) := by decide +kernel
theorem dX12_of_100 : decode cX12_of 100 = .ok (.ireturn, 1) := by decide +kernel
theorem dX12_of_101 : decode cX12_of 101 = .ok (.aload_n 0, 1) := by decide +kernel
theorem dX12_of_102 : decode cX12_of 102 = .ok (.iload_n 1, 1) := by decide +kernel
theorem dX12_of_103 : decode cX12_of 103 = .ok (.invokevirtual 161, 3) := by decide +kernel
theorem dX12_of_106 : decode cX12_of 106 = .ok (.ireturn, 1) := by decide +kernel
theorem dX12_of_107 : decode cX12_of 107 = .ok (.aload_n 0, 1) := by decide +kernel
theorem dX12_of_108 : decode cX12_of 108 = .ok (.iload_n 1, 1) := by decide +kernel
theorem dX12_of_109 : decode cX12_of 109 = .ok (.invokevirtual 164, 3) := by decide +kernel
theorem dX12_of_112 : decode cX12_of 112 = .ok (.ireturn, 1) := by decide +kernel
theorem dX12_of_113 : decode cX12_of 113 = .ok (.ldc 156, 2) := by decide +kernel
theorem dX12_of_115 : decode cX12_of 115 = .ok (.ireturn, 1) := by decide +kernel
theorem dX12_valueOf_0 : decode cX12_valueOf 0 = .ok (.iload_n 2, 1) := by decide +kernel
theorem dX12_valueOf_1 : decode cX12_valueOf 1 = .ok (.ifCond .ne 12, 3) := by decide +kernel
theorem dX12_valueOf_4 : decode cX12_valueOf 4 = .ok (.aload_n 0, 1) := by decide +kernel
theorem dX12_valueOf_5 : decode cX12_valueOf 5 = .ok (.getfield 43, 3) := by decide +kernel
theorem dX12_valueOf_8 : decode cX12_valueOf 8 = .ok (.iload_n 1, 1) := by decide +kernel
theorem dX12_valueOf_9 : decode cX12_valueOf 9 = .ok (.iaload, 1) := by decide +kernel
theorem dX12_valueOf_10 : decode cX12_valueOf 10 = .ok (.goto 23, 3) := by decide +kernel
theorem dX12_valueOf_13 : decode cX12_valueOf 13 = .ok (.iload_n 2, 1) := by decide +kernel
theorem dX12_valueOf_14 : decode cX12_valueOf 14 = .ok (.iconst 1, 1) := by decide +kernel
theorem dX12_valueOf_15 : decode cX12_valueOf 15 = .ok (.if_icmp .ne 12, 3) := by decide +kernel
theorem dX12_valueOf_18 : decode cX12_valueOf 18 = .ok (.aload_n 0, 1) := by decide +kernel
theorem dX12_valueOf_19 : decode cX12_valueOf 19 = .ok (.getfield 46, 3) := by decide +kernel
theorem dX12_valueOf_22 : decode cX12_valueOf 22 = .ok (.iload_n 1, 1) := by decide +kernel
theorem dX12_valueOf_23 : decode cX12_valueOf 23 = .ok (.iaload, 1) := by decide +kernel
theorem dX12_valueOf_24 : decode cX12_valueOf 24 = .ok (.goto 9, 3) := by decide +kernel
theorem dX12_valueOf_27 : decode cX12_valueOf 27 = .ok (.aload_n 0, 1) := by decide +kernel
theorem dX12_valueOf_28 : decode cX12_valueOf 28 = .ok (.getfield 25, 3) := by decide +kernel
theorem dX12_valueOf_31 : decode cX12_valueOf 31 = .ok (.iload_n 1, 1) := by decide +kernel
theorem dX12_valueOf_32 : decode cX12_valueOf 32 = .ok (.iaload, 1) := by decide +kernel
theorem dX12_valueOf_33 : decode cX12_valueOf 33 = .ok (.ireturn, 1) := by decide +kernel
theorem dX12_becomes_0 : decode cX12_becomes 0 = .ok (.iload_n 2, 1) := by decide +kernel
theorem dX12_becomes_1 : decode cX12_becomes 1 = .ok (.ifCond .ne 13, 3) := by decide +kernel
theorem dX12_becomes_4 : decode cX12_becomes 4 = .ok (.aload_n 0, 1) := by decide +kernel
theorem dX12_becomes_5 : decode cX12_becomes 5 = .ok (.getfield 43, 3) := by decide +kernel
theorem dX12_becomes_8 : decode cX12_becomes 8 = .ok (.iload_n 1, 1) := by decide +kernel
theorem dX12_becomes_9 : decode cX12_becomes 9 = .ok (.iload_n 3, 1) := by decide +kernel
theorem dX12_becomes_10 : decode cX12_becomes 10 = .ok (.iastore, 1) := by decide +kernel
theorem dX12_becomes_11 : decode cX12_becomes 11 = .ok (.goto 25, 3) := by decide +kernel
theorem dX12_becomes_14 : decode cX12_becomes 14 = .ok (.iload_n 2, 1) := by decide +kernel
theorem dX12_becomes_15 : decode cX12_becomes 15 = .ok (.iconst 1, 1) := by decide +kernel
theorem dX12_becomes_16 : decode cX12_becomes 16 = .ok (.if_icmp .ne 13, 3) := by decide +kernel
theorem dX12_becomes_19 : decode cX12_becomes 19 = .ok (.aload_n 0, 1) := by decide +kernel
theorem dX12_becomes_20 : decode cX12_becomes 20 = .ok (.getfield 46, 3) := by decide +kernel
theorem dX12_becomes_23 : decode cX12_becomes 23 = .ok (.iload_n 1, 1) := by decide +kernel
theorem dX12_becomes_24 : decode cX12_becomes 24 = .ok (.iload_n 3, 1) := by decide +kernel
theorem dX12_becomes_25 : decode cX12_becomes 25 = .ok (.iastore, 1) := by decide +kernel
theorem dX12_becomes_26 : decode cX12_becomes 26 = .ok (.goto 10, 3) := by decide +kernel
theorem dX12_becomes_29 : decode cX12_becomes 29 = .ok (.aload_n 0, 1) := by decide +kernel
theorem dX12_becomes_30 : decode cX12_becomes 30 = .ok (.getfield 25, 3) := by decide +kernel
theorem dX12_becomes_33 : decode cX12_becomes 33 = .ok (.iload_n 1, 1) := by decide +kernel
theorem dX12_becomes_34 : decode cX12_becomes 34 = .ok (.iload_n 3, 1) := by decide +kernel
theorem dX12_becomes_35 : decode cX12_becomes 35 = .ok (.iastore, 1) := by decide +kernel
theorem dX12_becomes_36 : decode cX12_becomes 36 = .ok (.return_, 1) := by decide +kernel
theorem dX12_mend_0 : decode cX12_mend 0 = .ok (.iload_n 2, 1) := by decide +kernel
theorem dX12_mend_1 : decode cX12_mend 1 = .ok (.ifCond .ne 31, 3) := by decide +kernel
theorem dX12_mend_4 : decode cX12_mend 4 = .ok (.aload_n 0, 1) := by decide +kernel
theorem dX12_mend_5 : decode cX12_mend 5 = .ok (.iload_n 1, 1) := by decide +kernel
theorem dX12_mend_6 : decode cX12_mend 6 = .ok (.invokevirtual 153, 3) := by decide +kernel
theorem dX12_mend_9 : decode cX12_mend 9 = .ok (.ifCond .eq 19, 3) := by decide +kernel
theorem dX12_mend_12 : decode cX12_mend 12 = .ok (.iload_n 3, 1) := by decide +kernel
theorem dX12_mend_13 : decode cX12_mend 13 = .ok (.bipush 10, 2) := by decide +kernel
theorem dX12_mend_15 : decode cX12_mend 15 = .ok (.sipush 29999, 3) := by decide +kernel
theorem dX12_mend_18 : decode cX12_mend 18 = .ok (.invokestatic 117, 3) := by decide +kernel
theorem dX12_mend_21 : decode cX12_mend 21 = .ok (.ifCond .eq 7, 3) := by decide +kernel
theorem dX12_mend_24 : decode cX12_mend 24 = .ok (.iconst 1, 1) := by decide +kernel
theorem dX12_mend_25 : decode cX12_mend 25 = .ok (.goto 74, 3) := by decide +kernel
theorem dX12_mend_28 : decode cX12_mend 28 = .ok (.iconst 0, 1) := by decide +kernel
theorem dX12_mend_29 : decode cX12_mend 29 = .ok (.goto 70, 3) := by decide +kernel
theorem dX12_mend_32 : decode cX12_mend 32 = .ok (.iload_n 2, 1) := by decide +kernel
theorem dX12_mend_33 : decode cX12_mend 33 = .ok (.iconst 1, 1) := by decide +kernel
theorem dX12_mend_34 : decode cX12_mend 34 = .ok (.if_icmp .ne 32, 3) := by decide +kernel
theorem dX12_mend_37 : decode cX12_mend 37 = .ok (.aload_n 0, 1) := by decide +kernel
theorem dX12_mend_38 : decode cX12_mend 38 = .ok (.iload_n 1, 1) := by decide +kernel
theorem dX12_mend_39 : decode cX12_mend 39 = .ok (.invokevirtual 153, 3) := by decide +kernel
theorem dX12_mend_42 : decode cX12_mend 42 = .ok (.ifCond .eq 20, 3) := by decide +kernel
theorem dX12_mend_45 : decode cX12_mend 45 = .ok (.iload_n 3, 1) := by decide +kernel
theorem dX12_mend_46 : decode cX12_mend 46 = .ok (.iconst (-1), 1) := by decide +kernel
theorem dX12_mend_47 : decode cX12_mend 47 = .ok (.if_icmp .eq 11, 3) := by decide +kernel
theorem dX12_mend_50 : decode cX12_mend 50 = .ok (.aload_n 0, 1) := by decide +kernel
theorem dX12_mend_51 : decode cX12_mend 51 = .ok (.iload_n 3, 1) := by decide +kernel
theorem dX12_mend_52 : decode cX12_mend 52 = .ok (.invokevirtual 138, 3) := by decide +kernel
theorem dX12_mend_55 : decode cX12_mend 55 = .ok (.ifCond .eq 7, 3) := by decide +kernel
theorem dX12_mend_58 : decode cX12_mend 58 = .ok (.iconst 1, 1) := by decide +kernel
theorem dX12_mend_59 : decode cX12_mend 59 = .ok (.goto 40, 3) := by decide +kernel
theorem dX12_mend_62 : decode cX12_mend 62 = .ok (.iconst 0, 1) := by decide +kernel
theorem dX12_mend_63 : decode cX12_mend 63 = .ok (.goto 36, 3) := by decide +kernel
theorem dX12_mend_66 : decode cX12_mend 66 = .ok (.iload_n 2, 1) := by decide +kernel
theorem dX12_mend_67 : decode cX12_mend 67 = .ok (.iconst 2, 1) := by decide +kernel
theorem dX12_mend_68 : decode cX12_mend 68 = .ok (.if_icmp .ne 30, 3) := by decide +kernel
theorem dX12_mend_71 : decode cX12_mend 71 = .ok (.iload_n 1, 1) := by decide +kernel
theorem dX12_mend_72 : decode cX12_mend 72 = .ok (.ifCond .le 26, 3) := by decide +kernel
theorem dX12_mend_75 : decode cX12_mend 75 = .ok (.aload_n 0, 1) := by decide +kernel
theorem dX12_mend_76 : decode cX12_mend 76 = .ok (.iload_n 1, 1) := by decide +kernel
theorem dX12_mend_77 : decode cX12_mend 77 = .ok (.invokevirtual 138, 3) := by decide +kernel
theorem dX12_mend_80 : decode cX12_mend 80 = .ok (.ifCond .eq 18, 3) := by decide +kernel
theorem dX12_mend_83 : decode cX12_mend 83 = .ok (.iload_n 3, 1) := by decide +kernel
theorem dX12_mend_84 : decode cX12_mend 84 = .ok (.bipush (-99), 2) := by decide +kernel
theorem dX12_mend_86 : decode cX12_mend 86 = .ok (.bipush 99, 2) := by decide +kernel
theorem dX12_mend_88 : decode cX12_mend 88 = .ok (.invokestatic 117, 3) := by decide +kernel
theorem dX12_mend_91 : decode cX12_mend 91 = .ok (.ifCond .eq 7, 3) := by decide +kernel
theorem dX12_mend_94 : decode cX12_mend 94 = .ok (.iconst 1, 1) := by decide +kernel
theorem dX12_mend_95 : decode cX12_mend 95 = .ok (.goto 4, 3) := by decide +kernel
theorem dX12_mend_98 : decode cX12_mend 98 = .ok (.iconst 0, 1) := by decide +kernel
theorem dX12_mend_99 : decode cX12_mend 99 = .ok (.istore 4, 2) := by decide +kernel
theorem dX12_mend_101 : decode cX12_mend 101 = .ok (.iload 4, 2) := by decide +kernel
theorem dX12_mend_103 : decode cX12_mend 103 = .ok (.ifCond .ne 6, 3) := by decide +kernel
theorem dX12_mend_106 : decode cX12_mend 106 = .ok (.ldc 156, 2) := by decide +kernel
theorem dX12_mend_108 : decode cX12_mend 108 = .ok (.ireturn, 1) := by decide +kernel
theorem dX12_mend_109 : decode cX12_mend 109 = .ok (.aload_n 0, 1) := by decide +kernel
theorem dX12_mend_110 : decode cX12_mend 110 = .ok (.iload_n 1, 1) := by decide +kernel
theorem dX12_mend_111 : decode cX12_mend 111 = .ok (.iload_n 2, 1) := by decide +kernel
theorem dX12_mend_112 : decode cX12_mend 112 = .ok (.invokevirtual 167, 3) := by decide +kernel
theorem dX12_mend_115 : decode cX12_mend 115 = .ok (.iload_n 3, 1) := by decide +kernel
theorem dX12_mend_116 : decode cX12_mend 116 = .ok (.if_icmp .ne 5, 3) := by decide +kernel
theorem dX12_mend_119 : decode cX12_mend 119 = .ok (.iload_n 3, 1) := by decide +kernel
theorem dX12_mend_120 : decode cX12_mend 120 = .ok (.ireturn, 1) := by decide +kernel
theorem dX12_mend_121 : decode cX12_mend 121 = .ok (.aload_n 0, 1) := by decide +kernel
theorem dX12_mend_122 : decode cX12_mend 122 = .ok (.getfield 171, 3) := by decide +kernel
theorem dX12_mend_125 : decode cX12_mend 125 = .ok (.bipush 40, 2) := by decide +kernel
theorem dX12_mend_127 : decode cX12_mend 127 = .ok (.if_icmp .ne 93, 3) := by decide +kernel
theorem dX12_mend_130 : decode cX12_mend 130 = .ok (.iconst 1, 1) := by decide +kernel
theorem dX12_mend_131 : decode cX12_mend 131 = .ok (.istore 5, 2) := by decide +kernel
theorem dX12_mend_133 : decode cX12_mend 133 = .ok (.iload 5, 2) := by decide +kernel
theorem dX12_mend_135 : decode cX12_mend 135 = .ok (.bipush 40, 2) := by decide +kernel
theorem dX12_mend_137 : decode cX12_mend 137 = .ok (.if_icmp .ge 73, 3) := by decide +kernel
theorem dX12_mend_140 : decode cX12_mend 140 = .ok (.aload_n 0, 1) := by decide +kernel
theorem dX12_mend_141 : decode cX12_mend 141 = .ok (.getfield 53, 3) := by decide +kernel
theorem dX12_mend_144 : decode cX12_mend 144 = .ok (.iload 5, 2) := by decide +kernel
theorem dX12_mend_146 : decode cX12_mend 146 = .ok (.iconst 1, 1) := by decide +kernel
theorem dX12_mend_147 : decode cX12_mend 147 = .ok (.isub, 1) := by decide +kernel
theorem dX12_mend_148 : decode cX12_mend 148 = .ok (.aload_n 0, 1) := by decide +kernel
theorem dX12_mend_149 : decode cX12_mend 149 = .ok (.getfield 53, 3) := by decide +kernel
theorem dX12_mend_152 : decode cX12_mend 152 = .ok (.iload 5, 2) := by decide +kernel
theorem dX12_mend_154 : decode cX12_mend 154 = .ok (.iaload, 1) := by decide +kernel
theorem dX12_mend_155 : decode cX12_mend 155 = .ok (.iastore, 1) := by decide +kernel
theorem dX12_mend_156 : decode cX12_mend 156 = .ok (.aload_n 0, 1) := by decide +kernel
theorem dX12_mend_157 : decode cX12_mend 157 = .ok (.getfield 56, 3) := by decide +kernel
theorem dX12_mend_160 : decode cX12_mend 160 = .ok (.iload 5, 2) := by decide +kernel
theorem dX12_mend_162 : decode cX12_mend 162 = .ok (.iconst 1, 1) := by decide +kernel
theorem dX12_mend_163 : decode cX12_mend 163 = .ok (.isub, 1) := by decide +kernel
theorem dX12_mend_164 : decode cX12_mend 164 = .ok (.aload_n 0, 1) := by decide +kernel
theorem dX12_mend_165 : decode cX12_mend 165 = .ok (.getfield 56, 3) := by decide +kernel
theorem dX12_mend_168 : decode cX12_mend 168 = .ok (.iload 5, 2) := by decide +kernel
theorem dX12_mend_170 : decode cX12_mend 170 = .ok (.iaload, 1) := by decide +kernel
theorem dX12_mend_171 : decode cX12_mend 171 = .ok (.iastore, 1) := by decide +kernel
theorem dX12_mend_172 : decode cX12_mend 172 = .ok (.aload_n 0, 1) := by decide +kernel
theorem dX12_mend_173 : decode cX12_mend 173 = .ok (.getfield 59, 3) := by decide +kernel
theorem dX12_mend_176 : decode cX12_mend 176 = .ok (.iload 5, 2) := by decide +kernel
theorem dX12_mend_178 : decode cX12_mend 178 = .ok (.iconst 1, 1) := by decide +kernel
theorem dX12_mend_179 : decode cX12_mend 179 = .ok (.isub, 1) := by decide +kernel
theorem dX12_mend_180 : decode cX12_mend 180 = .ok (.aload_n 0, 1) := by decide +kernel
theorem dX12_mend_181 : decode cX12_mend 181 = .ok (.getfield 59, 3) := by decide +kernel
theorem dX12_mend_184 : decode cX12_mend 184 = .ok (.iload 5, 2) := by decide +kernel
theorem dX12_mend_186 : decode cX12_mend 186 = .ok (.iaload, 1) := by decide +kernel
theorem dX12_mend_187 : decode cX12_mend 187 = .ok (.iastore, 1) := by decide +kernel
theorem dX12_mend_188 : decode cX12_mend 188 = .ok (.aload_n 0, 1) := by decide +kernel
theorem dX12_mend_189 : decode cX12_mend 189 = .ok (.getfield 62, 3) := by decide +kernel
theorem dX12_mend_192 : decode cX12_mend 192 = .ok (.iload 5, 2) := by decide +kernel
theorem dX12_mend_194 : decode cX12_mend 194 = .ok (.iconst 1, 1) := by decide +kernel
theorem dX12_mend_195 : decode cX12_mend 195 = .ok (.isub, 1) := by decide +kernel
theorem dX12_mend_196 : decode cX12_mend 196 = .ok (.aload_n 0, 1) := by decide +kernel
theorem dX12_mend_197 : decode cX12_mend 197 = .ok (.getfield 62, 3) := by decide +kernel
theorem dX12_mend_200 : decode cX12_mend 200 = .ok (.iload 5, 2) := by decide +kernel
theorem dX12_mend_202 : decode cX12_mend 202 = .ok (.iaload, 1) := by decide +kernel
theorem dX12_mend_203 : decode cX12_mend 203 = .ok (.iastore, 1) := by decide +kernel
theorem dX12_mend_204 : decode cX12_mend 204 = .ok (.iinc 5 1, 3) := by decide +kernel
theorem dX12_mend_207 : decode cX12_mend 207 = .ok (.goto (-74), 3) := by decide +kernel
theorem dX12_mend_210 : decode cX12_mend 210 = .ok (.aload_n 0, 1) := by decide +kernel
theorem dX12_mend_211 : decode cX12_mend 211 = .ok (.dup, 1) := by decide +kernel
theorem dX12_mend_212 : decode cX12_mend 212 = .ok (.getfield 171, 3) := by decide +kernel
theorem dX12_mend_215 : decode cX12_mend 215 = .ok (.iconst 1, 1) := by decide +kernel
theorem dX12_mend_216 : decode cX12_mend 216 = .ok (.isub, 1) := by decide +kernel
theorem dX12_mend_217 : decode cX12_mend 217 = .ok (.putfield 171, 3) := by decide +kernel
theorem dX12_mend_220 : decode cX12_mend 220 = .ok (.aload_n 0, 1) := by decide +kernel
theorem dX12_mend_221 : decode cX12_mend 221 = .ok (.iload_n 1, 1) := by decide +kernel
theorem dX12_mend_222 : decode cX12_mend 222 = .ok (.iload_n 2, 1) := by decide +kernel
theorem dX12_mend_223 : decode cX12_mend 223 = .ok (.invokevirtual 167, 3) := by decide +kernel
theorem dX12_mend_226 : decode cX12_mend 226 = .ok (.istore 5, 2) := by decide +kernel
theorem dX12_mend_228 : decode cX12_mend 228 = .ok (.aload_n 0, 1) := by decide +kernel
theorem dX12_mend_229 : decode cX12_mend 229 = .ok (.getfield 53, 3) := by decide +kernel
theorem dX12_mend_232 : decode cX12_mend 232 = .ok (.aload_n 0, 1) := by decide +kernel
theorem dX12_mend_233 : decode cX12_mend 233 = .ok (.getfield 171, 3) := by decide +kernel
theorem dX12_mend_236 : decode cX12_mend 236 = .ok (.iload_n 1, 1) := by decide +kernel
theorem dX12_mend_237 : decode cX12_mend 237 = .ok (.iastore, 1) := by decide +kernel
theorem dX12_mend_238 : decode cX12_mend 238 = .ok (.aload_n 0, 1) := by decide +kernel
theorem dX12_mend_239 : decode cX12_mend 239 = .ok (.getfield 56, 3) := by decide +kernel
theorem dX12_mend_242 : decode cX12_mend 242 = .ok (.aload_n 0, 1) := by decide +kernel
theorem dX12_mend_243 : decode cX12_mend 243 = .ok (.getfield 171, 3) := by decide +kernel
theorem dX12_mend_246 : decode cX12_mend 246 = .ok (.iload_n 2, 1) := by decide +kernel
theorem dX12_mend_247 : decode cX12_mend 247 = .ok (.iastore, 1) := by decide +kernel
theorem dX12_mend_248 : decode cX12_mend 248 = .ok (.aload_n 0, 1) := by decide +kernel
theorem dX12_mend_249 : decode cX12_mend 249 = .ok (.getfield 59, 3) := by decide +kernel
theorem dX12_mend_252 : decode cX12_mend 252 = .ok (.aload_n 0, 1) := by decide +kernel
theorem dX12_mend_253 : decode cX12_mend 253 = .ok (.getfield 171, 3) := by decide +kernel
theorem dX12_mend_256 : decode cX12_mend 256 = .ok (.iload 5, 2) := by decide +kernel
theorem dX12_mend_258 : decode cX12_mend 258 = .ok (.iastore, 1) := by decide +kernel
theorem dX12_mend_259 : decode cX12_mend 259 = .ok (.aload_n 0, 1) := by decide +kernel
theorem dX12_mend_260 : decode cX12_mend 260 = .ok (.getfield 62, 3) := by decide +kernel
theorem dX12_mend_263 : decode cX12_mend 263 = .ok (.aload_n 0, 1) := by decide +kernel
theorem dX12_mend_264 : decode cX12_mend 264 = .ok (.getfield 171, 3) := by decide +kernel
theorem dX12_mend_267 : decode cX12_mend 267 = .ok (.iload_n 3, 1) := by decide +kernel
theorem dX12_mend_268 : decode cX12_mend 268 = .ok (.iastore, 1) := by decide +kernel
theorem dX12_mend_269 : decode cX12_mend 269 = .ok (.aload_n 0, 1) := by decide +kernel
theorem dX12_mend_270 : decode cX12_mend 270 = .ok (.dup, 1) := by decide +kernel
theorem dX12_mend_271 : decode cX12_mend 271 = .ok (.getfield 171, 3) := by decide +kernel
theorem dX12_mend_274 : decode cX12_mend 274 = .ok (.iconst 1, 1) := by decide +kernel
theorem dX12_mend_275 : decode cX12_mend 275 = .ok (.iadd, 1) := by decide +kernel
theorem dX12_mend_276 : decode cX12_mend 276 = .ok (.putfield 171, 3) := by decide +kernel
theorem dX12_mend_279 : decode cX12_mend 279 = .ok (.aload_n 0, 1) := by decide +kernel
theorem dX12_mend_280 : decode cX12_mend 280 = .ok (.iconst 0, 1) := by decide +kernel
theorem dX12_mend_281 : decode cX12_mend 281 = .ok (.putfield 174, 3) := by decide +kernel
theorem dX12_mend_284 : decode cX12_mend 284 = .ok (.aload_n 0, 1) := by decide +kernel
theorem dX12_mend_285 : decode cX12_mend 285 = .ok (.iload_n 1, 1) := by decide +kernel
theorem dX12_mend_286 : decode cX12_mend 286 = .ok (.iload_n 2, 1) := by decide +kernel
theorem dX12_mend_287 : decode cX12_mend 287 = .ok (.iload_n 3, 1) := by decide +kernel
theorem dX12_mend_288 : decode cX12_mend 288 = .ok (.invokevirtual 177, 3) := by decide +kernel
theorem dX12_mend_291 : decode cX12_mend 291 = .ok (.iload 5, 2) := by decide +kernel
theorem dX12_mend_293 : decode cX12_mend 293 = .ok (.ireturn, 1) := by decide +kernel
theorem dX12_undo_0 : decode cX12_undo 0 = .ok (.aload_n 0, 1) := by decide +kernel
theorem dX12_undo_1 : decode cX12_undo 1 = .ok (.getfield 171, 3) := by decide +kernel
theorem dX12_undo_4 : decode cX12_undo 4 = .ok (.ifCond .ne 6, 3) := by decide +kernel
theorem dX12_undo_7 : decode cX12_undo 7 = .ok (.bipush (-5), 2) := by decide +kernel
theorem dX12_undo_9 : decode cX12_undo 9 = .ok (.ireturn, 1) := by decide +kernel
theorem dX12_undo_10 : decode cX12_undo 10 = .ok (.aload_n 0, 1) := by decide +kernel
theorem dX12_undo_11 : decode cX12_undo 11 = .ok (.dup, 1) := by decide +kernel
theorem dX12_undo_12 : decode cX12_undo 12 = .ok (.getfield 171, 3) := by decide +kernel
theorem dX12_undo_15 : decode cX12_undo 15 = .ok (.iconst 1, 1) := by decide +kernel
theorem dX12_undo_16 : decode cX12_undo 16 = .ok (.isub, 1) := by decide +kernel
theorem dX12_undo_17 : decode cX12_undo 17 = .ok (.putfield 171, 3) := by decide +kernel
theorem dX12_undo_20 : decode cX12_undo 20 = .ok (.aload_n 0, 1) := by decide +kernel
theorem dX12_undo_21 : decode cX12_undo 21 = .ok (.dup, 1) := by decide +kernel
theorem dX12_undo_22 : decode cX12_undo 22 = .ok (.getfield 174, 3) := by decide +kernel
theorem dX12_undo_25 : decode cX12_undo 25 = .ok (.iconst 1, 1) := by decide +kernel
theorem dX12_undo_26 : decode cX12_undo 26 = .ok (.iadd, 1) := by decide +kernel
theorem dX12_undo_27 : decode cX12_undo 27 = .ok (.putfield 174, 3) := by decide +kernel
theorem dX12_undo_30 : decode cX12_undo 30 = .ok (.aload_n 0, 1) := by decide +kernel
theorem dX12_undo_31 : decode cX12_undo 31 = .ok (.aload_n 0, 1) := by decide +kernel
theorem dX12_undo_32 : decode cX12_undo 32 = .ok (.getfield 53, 3) := by decide +kernel
theorem dX12_undo_35 : decode cX12_undo 35 = .ok (.aload_n 0, 1) := by decide +kernel
theorem dX12_undo_36 : decode cX12_undo 36 = .ok (.getfield 171, 3) := by decide +kernel
theorem dX12_undo_39 : decode cX12_undo 39 = .ok (.iaload, 1) := by decide +kernel
theorem dX12_undo_40 : decode cX12_undo 40 = .ok (.aload_n 0, 1) := by decide +kernel
theorem dX12_undo_41 : decode cX12_undo 41 = .ok (.getfield 56, 3) := by decide +kernel
theorem dX12_undo_44 : decode cX12_undo 44 = .ok (.aload_n 0, 1) := by decide +kernel
theorem dX12_undo_45 : decode cX12_undo 45 = .ok (.getfield 171, 3) := by decide +kernel
theorem dX12_undo_48 : decode cX12_undo 48 = .ok (.iaload, 1) := by decide +kernel
theorem dX12_undo_49 : decode cX12_undo 49 = .ok (.aload_n 0, 1) := by decide +kernel
theorem dX12_undo_50 : decode cX12_undo 50 = .ok (.getfield 59, 3) := by decide +kernel
theorem dX12_undo_53 : decode cX12_undo 53 = .ok (.aload_n 0, 1) := by decide +kernel
theorem dX12_undo_54 : decode cX12_undo 54 = .ok (.getfield 171, 3) := by decide +kernel
theorem dX12_undo_57 : decode cX12_undo 57 = .ok (.iaload, 1) := by decide +kernel
theorem dX12_undo_58 : decode cX12_undo 58 = .ok (.invokevirtual 177, 3) := by decide +kernel
theorem dX12_undo_61 : decode cX12_undo 61 = .ok (.aload_n 0, 1) := by decide +kernel
theorem dX12_undo_62 : decode cX12_undo 62 = .ok (.getfield 171, 3) := by decide +kernel
theorem dX12_undo_65 : decode cX12_undo 65 = .ok (.ireturn, 1) := by decide +kernel
theorem dX12_redo_0 : decode cX12_redo 0 = .ok (.aload_n 0, 1) := by decide +kernel
theorem dX12_redo_1 : decode cX12_redo 1 = .ok (.getfield 174, 3) := by decide +kernel
theorem dX12_redo_4 : decode cX12_redo 4 = .ok (.ifCond .ne 6, 3) := by decide +kernel
theorem dX12_redo_7 : decode cX12_redo 7 = .ok (.bipush (-5), 2) := by decide +kernel
theorem dX12_redo_9 : decode cX12_redo 9 = .ok (.ireturn, 1) := by decide +kernel
theorem dX12_redo_10 : decode cX12_redo 10 = .ok (.aload_n 0, 1) := by decide +kernel
theorem dX12_redo_11 : decode cX12_redo 11 = .ok (.aload_n 0, 1) := by decide +kernel
theorem dX12_redo_12 : decode cX12_redo 12 = .ok (.getfield 53, 3) := by decide +kernel
theorem dX12_redo_15 : decode cX12_redo 15 = .ok (.aload_n 0, 1) := by decide +kernel
theorem dX12_redo_16 : decode cX12_redo 16 = .ok (.getfield 171, 3) := by decide +kernel
theorem dX12_redo_19 : decode cX12_redo 19 = .ok (.iaload, 1) := by decide +kernel
theorem dX12_redo_20 : decode cX12_redo 20 = .ok (.aload_n 0, 1) := by decide +kernel
theorem dX12_redo_21 : decode cX12_redo 21 = .ok (.getfield 56, 3) := by decide +kernel
theorem dX12_redo_24 : decode cX12_redo 24 = .ok (.aload_n 0, 1) := by decide +kernel
theorem dX12_redo_25 : decode cX12_redo 25 = .ok (.getfield 171, 3) := by decide +kernel
theorem dX12_redo_28 : decode cX12_redo 28 = .ok (.iaload, 1) := by decide +kernel
theorem dX12_redo_29 : decode cX12_redo 29 = .ok (.aload_n 0, 1) := by decide +kernel
theorem dX12_redo_30 : decode cX12_redo 30 = .ok (.getfield 62, 3) := by decide +kernel
theorem dX12_redo_33 : decode cX12_redo 33 = .ok (.aload_n 0, 1) := by decide +kernel
theorem dX12_redo_34 : decode cX12_redo 34 = .ok (.getfield 171, 3) := by decide +kernel
theorem dX12_redo_37 : decode cX12_redo 37 = .ok (.iaload, 1) := by decide +kernel
theorem dX12_redo_38 : decode cX12_redo 38 = .ok (.invokevirtual 177, 3) := by decide +kernel
theorem dX12_redo_41 : decode cX12_redo 41 = .ok (.aload_n 0, 1) := by decide +kernel
theorem dX12_redo_42 : decode cX12_redo 42 = .ok (.dup, 1) := by decide +kernel
theorem dX12_redo_43 : decode cX12_redo 43 = .ok (.getfield 171, 3) := by decide +kernel
theorem dX12_redo_46 : decode cX12_redo 46 = .ok (.iconst 1, 1) := by decide +kernel
theorem dX12_redo_47 : decode cX12_redo 47 = .ok (.iadd, 1) := by decide +kernel
theorem dX12_redo_48 : decode cX12_redo 48 = .ok (.putfield 171, 3) := by decide +kernel
theorem dX12_redo_51 : decode cX12_redo 51 = .ok (.aload_n 0, 1) := by decide +kernel
theorem dX12_redo_52 : decode cX12_redo 52 = .ok (.dup, 1) := by decide +kernel
theorem dX12_redo_53 : decode cX12_redo 53 = .ok (.getfield 174, 3) := by decide +kernel
theorem dX12_redo_56 : decode cX12_redo 56 = .ok (.iconst 1, 1) := by decide +kernel
theorem dX12_redo_57 : decode cX12_redo 57 = .ok (.isub, 1) := by decide +kernel
theorem dX12_redo_58 : decode cX12_redo 58 = .ok (.putfield 174, 3) := by decide +kernel
theorem dX12_redo_61 : decode cX12_redo 61 = .ok (.aload_n 0, 1) := by decide +kernel
theorem dX12_redo_62 : decode cX12_redo 62 = .ok (.getfield 174, 3) := by decide +kernel
theorem dX12_redo_65 : decode cX12_redo 65 = .ok (.ireturn, 1) := by decide +kernel
theorem dX12_feed_0 : decode cX12_feed 0 = .ok (.iload_n 1, 1) := by decide +kernel
theorem dX12_feed_1 : decode cX12_feed 1 = .ok (.iconst 1, 1) := by decide +kernel
theorem dX12_feed_2 : decode cX12_feed 2 = .ok (.iconst 4, 1) := by decide +kernel
theorem dX12_feed_3 : decode cX12_feed 3 = .ok (.invokestatic 117, 3) := by decide +kernel
theorem dX12_feed_6 : decode cX12_feed 6 = .ok (.ifCond .ne 5, 3) := by decide +kernel
theorem dX12_feed_9 : decode cX12_feed 9 = .ok (.iconst (-1), 1) := by decide +kernel
theorem dX12_feed_10 : decode cX12_feed 10 = .ok (.ireturn, 1) := by decide +kernel
theorem dX12_feed_11 : decode cX12_feed 11 = .ok (.aload_n 0, 1) := by decide +kernel
theorem dX12_feed_12 : decode cX12_feed 12 = .ok (.getfield 181, 3) := by decide +kernel
theorem dX12_feed_15 : decode cX12_feed 15 = .ok (.iload_n 1, 1) := by decide +kernel
theorem dX12_feed_16 : decode cX12_feed 16 = .ok (.iadd, 1) := by decide +kernel
theorem dX12_feed_17 : decode cX12_feed 17 = .ok (.bipush 120, 2) := by decide +kernel
theorem dX12_feed_19 : decode cX12_feed 19 = .ok (.if_icmp .le 6, 3) := by decide +kernel
theorem dX12_feed_22 : decode cX12_feed 22 = .ok (.bipush (-3), 2) := by decide +kernel
theorem dX12_feed_24 : decode cX12_feed 24 = .ok (.ireturn, 1) := by decide +kernel
theorem dX12_feed_25 : decode cX12_feed 25 = .ok (.iconst 0, 1) := by decide +kernel
theorem dX12_feed_26 : decode cX12_feed 26 = .ok (.istore_n 3, 1) := by decide +kernel
theorem dX12_feed_27 : decode cX12_feed 27 = .ok (.iload_n 3, 1) := by decide +kernel
theorem dX12_feed_28 : decode cX12_feed 28 = .ok (.iload_n 1, 1) := by decide +kernel
theorem dX12_feed_29 : decode cX12_feed 29 = .ok (.if_icmp .ge 38, 3) := by decide +kernel
theorem dX12_feed_32 : decode cX12_feed 32 = .ok (.aload_n 0, 1) := by decide +kernel
theorem dX12_feed_33 : decode cX12_feed 33 = .ok (.getfield 65, 3) := by decide +kernel
theorem dX12_feed_36 : decode cX12_feed 36 = .ok (.aload_n 0, 1) := by decide +kernel
theorem dX12_feed_37 : decode cX12_feed 37 = .ok (.getfield 181, 3) := by decide +kernel
theorem dX12_feed_40 : decode cX12_feed 40 = .ok (.iload_n 2, 1) := by decide +kernel
theorem dX12_feed_41 : decode cX12_feed 41 = .ok (.bipush 8, 2) := by decide +kernel
theorem dX12_feed_43 : decode cX12_feed 43 = .ok (.iload_n 3, 1) := by decide +kernel
theorem dX12_feed_44 : decode cX12_feed 44 = .ok (.imul, 1) := by decide +kernel
theorem dX12_feed_45 : decode cX12_feed 45 = .ok (.ishr, 1) := by decide +kernel
theorem dX12_feed_46 : decode cX12_feed 46 = .ok (.sipush 255, 3) := by decide +kernel
theorem dX12_feed_49 : decode cX12_feed 49 = .ok (.iand, 1) := by decide +kernel
theorem dX12_feed_50 : decode cX12_feed 50 = .ok (.iastore, 1) := by decide +kernel
theorem dX12_feed_51 : decode cX12_feed 51 = .ok (.aload_n 0, 1) := by decide +kernel
theorem dX12_feed_52 : decode cX12_feed 52 = .ok (.dup, 1) := by decide +kernel
theorem dX12_feed_53 : decode cX12_feed 53 = .ok (.getfield 181, 3) := by decide +kernel
theorem dX12_feed_56 : decode cX12_feed 56 = .ok (.iconst 1, 1) := by decide +kernel
theorem dX12_feed_57 : decode cX12_feed 57 = .ok (.iadd, 1) := by decide +kernel
theorem dX12_feed_58 : decode cX12_feed 58 = .ok (.putfield 181, 3) := by decide +kernel
theorem dX12_feed_61 : decode cX12_feed 61 = .ok (.iinc 3 1, 3) := by decide +kernel
theorem dX12_feed_64 : decode cX12_feed 64 = .ok (.goto (-37), 3) := by decide +kernel
theorem dX12_feed_67 : decode cX12_feed 67 = .ok (.aload_n 0, 1) := by decide +kernel
theorem dX12_feed_68 : decode cX12_feed 68 = .ok (.getfield 181, 3) := by decide +kernel
theorem dX12_feed_71 : decode cX12_feed 71 = .ok (.ireturn, 1) := by decide +kernel
theorem dX12_emits_0 : decode cX12_emits 0 = .ok (.aload_n 0, 1) := by decide +kernel
theorem dX12_emits_1 : decode cX12_emits 1 = .ok (.getfield 68, 3) := by decide +kernel
theorem dX12_emits_4 : decode cX12_emits 4 = .ok (.aload_n 0, 1) := by decide +kernel
theorem dX12_emits_5 : decode cX12_emits 5 = .ok (.getfield 184, 3) := by decide +kernel
theorem dX12_emits_8 : decode cX12_emits 8 = .ok (.iload_n 1, 1) := by decide +kernel
theorem dX12_emits_9 : decode cX12_emits 9 = .ok (.iastore, 1) := by decide +kernel
theorem dX12_emits_10 : decode cX12_emits 10 = .ok (.aload_n 0, 1) := by decide +kernel
theorem dX12_emits_11 : decode cX12_emits 11 = .ok (.dup, 1) := by decide +kernel
theorem dX12_emits_12 : decode cX12_emits 12 = .ok (.getfield 184, 3) := by decide +kernel
theorem dX12_emits_15 : decode cX12_emits 15 = .ok (.iconst 1, 1) := by decide +kernel
theorem dX12_emits_16 : decode cX12_emits 16 = .ok (.iadd, 1) := by decide +kernel
theorem dX12_emits_17 : decode cX12_emits 17 = .ok (.putfield 184, 3) := by decide +kernel
theorem dX12_emits_20 : decode cX12_emits 20 = .ok (.return_, 1) := by decide +kernel
theorem dX12_strength_0 : decode cX12_strength 0 = .ok (.iload_n 0, 1) := by decide +kernel
theorem dX12_strength_1 : decode cX12_strength 1 = .ok (.lookupswitch 101 #[(37, 99), (38, 93), (42, 99), (43, 97), (45, 97), (47, 99), (60, 95), (61, 95), (62, 95), (124, 91)], 91) := by decide +kernel
theorem dX12_strength_92 : decode cX12_strength 92 = .ok (.iconst 1, 1) := by decide +kernel
theorem dX12_strength_93 : decode cX12_strength 93 = .ok (.ireturn, 1) := by decide +kernel
theorem dX12_strength_94 : decode cX12_strength 94 = .ok (.iconst 2, 1) := by decide +kernel
theorem dX12_strength_95 : decode cX12_strength 95 = .ok (.ireturn, 1) := by decide +kernel
theorem dX12_strength_96 : decode cX12_strength 96 = .ok (.iconst 3, 1) := by decide +kernel
theorem dX12_strength_97 : decode cX12_strength 97 = .ok (.ireturn, 1) := by decide +kernel
theorem dX12_strength_98 : decode cX12_strength 98 = .ok (.iconst 4, 1) := by decide +kernel
theorem dX12_strength_99 : decode cX12_strength 99 = .ok (.ireturn, 1) := by decide +kernel
theorem dX12_strength_100 : decode cX12_strength 100 = .ok (.iconst 5, 1) := by decide +kernel
theorem dX12_strength_101 : decode cX12_strength 101 = .ok (.ireturn, 1) := by decide +kernel
theorem dX12_strength_102 : decode cX12_strength 102 = .ok (.iconst 0, 1) := by decide +kernel
theorem dX12_strength_103 : decode cX12_strength 103 = .ok (.ireturn, 1) := by decide +kernel
theorem dX12_settles_0 : decode cX12_settles 0 = .ok (.aload_n 0, 1) := by decide +kernel
theorem dX12_settles_1 : decode cX12_settles 1 = .ok (.getfield 187, 3) := by decide +kernel
theorem dX12_settles_4 : decode cX12_settles 4 = .ok (.ifCond .le 63, 3) := by decide +kernel
theorem dX12_settles_7 : decode cX12_settles 7 = .ok (.aload_n 0, 1) := by decide +kernel
theorem dX12_settles_8 : decode cX12_settles 8 = .ok (.getfield 74, 3) := by decide +kernel
theorem dX12_settles_11 : decode cX12_settles 11 = .ok (.aload_n 0, 1) := by decide +kernel
theorem dX12_settles_12 : decode cX12_settles 12 = .ok (.getfield 187, 3) := by decide +kernel
theorem dX12_settles_15 : decode cX12_settles 15 = .ok (.iconst 1, 1) := by decide +kernel
theorem dX12_settles_16 : decode cX12_settles 16 = .ok (.isub, 1) := by decide +kernel
theorem dX12_settles_17 : decode cX12_settles 17 = .ok (.iaload, 1) := by decide +kernel
theorem dX12_settles_18 : decode cX12_settles 18 = .ok (.bipush 40, 2) := by decide +kernel
theorem dX12_settles_20 : decode cX12_settles 20 = .ok (.if_icmp .eq 47, 3) := by decide +kernel
theorem dX12_settles_23 : decode cX12_settles 23 = .ok (.aload_n 0, 1) := by decide +kernel
theorem dX12_settles_24 : decode cX12_settles 24 = .ok (.getfield 74, 3) := by decide +kernel
theorem dX12_settles_27 : decode cX12_settles 27 = .ok (.aload_n 0, 1) := by decide +kernel
theorem dX12_settles_28 : decode cX12_settles 28 = .ok (.getfield 187, 3) := by decide +kernel
theorem dX12_settles_31 : decode cX12_settles 31 = .ok (.iconst 1, 1) := by decide +kernel
theorem dX12_settles_32 : decode cX12_settles 32 = .ok (.isub, 1) := by decide +kernel
theorem dX12_settles_33 : decode cX12_settles 33 = .ok (.iaload, 1) := by decide +kernel
theorem dX12_settles_34 : decode cX12_settles 34 = .ok (.invokestatic 190, 3) := by decide +kernel
theorem dX12_settles_37 : decode cX12_settles 37 = .ok (.iload_n 1, 1) := by decide +kernel
theorem dX12_settles_38 : decode cX12_settles 38 = .ok (.if_icmp .lt 29, 3) := by decide +kernel
theorem dX12_settles_41 : decode cX12_settles 41 = .ok (.aload_n 0, 1) := by decide +kernel
theorem dX12_settles_42 : decode cX12_settles 42 = .ok (.dup, 1) := by decide +kernel
theorem dX12_settles_43 : decode cX12_settles 43 = .ok (.getfield 187, 3) := by decide +kernel
theorem dX12_settles_46 : decode cX12_settles 46 = .ok (.iconst 1, 1) := by decide +kernel
theorem dX12_settles_47 : decode cX12_settles 47 = .ok (.isub, 1) := by decide +kernel
theorem dX12_settles_48 : decode cX12_settles 48 = .ok (.putfield 187, 3) := by decide +kernel
theorem dX12_settles_51 : decode cX12_settles 51 = .ok (.aload_n 0, 1) := by decide +kernel
theorem dX12_settles_52 : decode cX12_settles 52 = .ok (.aload_n 0, 1) := by decide +kernel
theorem dX12_settles_53 : decode cX12_settles 53 = .ok (.getfield 74, 3) := by decide +kernel
theorem dX12_settles_56 : decode cX12_settles 56 = .ok (.aload_n 0, 1) := by decide +kernel
theorem dX12_settles_57 : decode cX12_settles 57 = .ok (.getfield 187, 3) := by decide +kernel
theorem dX12_settles_60 : decode cX12_settles 60 = .ok (.iaload, 1) := by decide +kernel
theorem dX12_settles_61 : decode cX12_settles 61 = .ok (.invokevirtual 193, 3) := by decide +kernel
theorem dX12_settles_64 : decode cX12_settles 64 = .ok (.goto (-64), 3) := by decide +kernel
theorem dX12_settles_67 : decode cX12_settles 67 = .ok (.return_, 1) := by decide +kernel
theorem dX12_isName_0 : decode cX12_isName 0 = .ok (.iload_n 0, 1) := by decide +kernel
theorem dX12_isName_1 : decode cX12_isName 1 = .ok (.tableswitch 101 102 122 #[99, 99, 101, 101, 101, 99, 101, 101, 99, 101, 99, 101, 101, 99, 99, 101, 101, 101, 101, 99, 99], 99) := by decide +kernel
theorem dX12_isName_100 : decode cX12_isName 100 = .ok (.iconst 1, 1) := by decide +kernel
theorem dX12_isName_101 : decode cX12_isName 101 = .ok (.ireturn, 1) := by decide +kernel
theorem dX12_isName_102 : decode cX12_isName 102 = .ok (.iconst 0, 1) := by decide +kernel
theorem dX12_isName_103 : decode cX12_isName 103 = .ok (.ireturn, 1) := by decide +kernel
theorem dX12_binds_0 : decode cX12_binds 0 = .ok (.aload_n 0, 1) := by decide +kernel
theorem dX12_binds_1 : decode cX12_binds 1 = .ok (.getfield 187, 3) := by decide +kernel
theorem dX12_binds_4 : decode cX12_binds 4 = .ok (.ifCond .le 71, 3) := by decide +kernel
theorem dX12_binds_7 : decode cX12_binds 7 = .ok (.aload_n 0, 1) := by decide +kernel
theorem dX12_binds_8 : decode cX12_binds 8 = .ok (.getfield 74, 3) := by decide +kernel
theorem dX12_binds_11 : decode cX12_binds 11 = .ok (.aload_n 0, 1) := by decide +kernel
theorem dX12_binds_12 : decode cX12_binds 12 = .ok (.getfield 187, 3) := by decide +kernel
theorem dX12_binds_15 : decode cX12_binds 15 = .ok (.iconst 1, 1) := by decide +kernel
theorem dX12_binds_16 : decode cX12_binds 16 = .ok (.isub, 1) := by decide +kernel
theorem dX12_binds_17 : decode cX12_binds 17 = .ok (.iaload, 1) := by decide +kernel
theorem dX12_binds_18 : decode cX12_binds 18 = .ok (.bipush 33, 2) := by decide +kernel
theorem dX12_binds_20 : decode cX12_binds 20 = .ok (.if_icmp .eq 19, 3) := by decide +kernel
theorem dX12_binds_23 : decode cX12_binds 23 = .ok (.aload_n 0, 1) := by decide +kernel
theorem dX12_binds_24 : decode cX12_binds 24 = .ok (.getfield 74, 3) := by decide +kernel
theorem dX12_binds_27 : decode cX12_binds 27 = .ok (.aload_n 0, 1) := by decide +kernel
theorem dX12_binds_28 : decode cX12_binds 28 = .ok (.getfield 187, 3) := by decide +kernel
theorem dX12_binds_31 : decode cX12_binds 31 = .ok (.iconst 1, 1) := by decide +kernel
theorem dX12_binds_32 : decode cX12_binds 32 = .ok (.isub, 1) := by decide +kernel
theorem dX12_binds_33 : decode cX12_binds 33 = .ok (.iaload, 1) := by decide +kernel
theorem dX12_binds_34 : decode cX12_binds 34 = .ok (.bipush 95, 2) := by decide +kernel
theorem dX12_binds_36 : decode cX12_binds 36 = .ok (.if_icmp .ne 39, 3) := by decide +kernel
theorem dX12_binds_39 : decode cX12_binds 39 = .ok (.aload_n 0, 1) := by decide +kernel
theorem dX12_binds_40 : decode cX12_binds 40 = .ok (.dup, 1) := by decide +kernel
theorem dX12_binds_41 : decode cX12_binds 41 = .ok (.getfield 187, 3) := by decide +kernel
theorem dX12_binds_44 : decode cX12_binds 44 = .ok (.iconst 1, 1) := by decide +kernel
theorem dX12_binds_45 : decode cX12_binds 45 = .ok (.isub, 1) := by decide +kernel
theorem dX12_binds_46 : decode cX12_binds 46 = .ok (.putfield 187, 3) := by decide +kernel
theorem dX12_binds_49 : decode cX12_binds 49 = .ok (.aload_n 0, 1) := by decide +kernel
theorem dX12_binds_50 : decode cX12_binds 50 = .ok (.dup, 1) := by decide +kernel
theorem dX12_binds_51 : decode cX12_binds 51 = .ok (.getfield 197, 3) := by decide +kernel
theorem dX12_binds_54 : decode cX12_binds 54 = .ok (.iconst 1, 1) := by decide +kernel
theorem dX12_binds_55 : decode cX12_binds 55 = .ok (.isub, 1) := by decide +kernel
theorem dX12_binds_56 : decode cX12_binds 56 = .ok (.putfield 197, 3) := by decide +kernel
theorem dX12_binds_59 : decode cX12_binds 59 = .ok (.aload_n 0, 1) := by decide +kernel
theorem dX12_binds_60 : decode cX12_binds 60 = .ok (.aload_n 0, 1) := by decide +kernel
theorem dX12_binds_61 : decode cX12_binds 61 = .ok (.getfield 74, 3) := by decide +kernel
theorem dX12_binds_64 : decode cX12_binds 64 = .ok (.aload_n 0, 1) := by decide +kernel
theorem dX12_binds_65 : decode cX12_binds 65 = .ok (.getfield 187, 3) := by decide +kernel
theorem dX12_binds_68 : decode cX12_binds 68 = .ok (.iaload, 1) := by decide +kernel
theorem dX12_binds_69 : decode cX12_binds 69 = .ok (.invokevirtual 193, 3) := by decide +kernel
theorem dX12_binds_72 : decode cX12_binds 72 = .ok (.goto (-72), 3) := by decide +kernel
theorem dX12_binds_75 : decode cX12_binds 75 = .ok (.return_, 1) := by decide +kernel
theorem dX12_wanted_0 : decode cX12_wanted 0 = .ok (.iload_n 1, 1) := by decide +kernel
theorem dX12_wanted_1 : decode cX12_wanted 1 = .ok (.bipush 48, 2) := by decide +kernel
theorem dX12_wanted_3 : decode cX12_wanted 3 = .ok (.bipush 57, 2) := by decide +kernel
theorem dX12_wanted_5 : decode cX12_wanted 5 = .ok (.invokestatic 117, 3) := by decide +kernel
theorem dX12_wanted_8 : decode cX12_wanted 8 = .ok (.ifCond .eq 91, 3) := by decide +kernel
theorem dX12_wanted_11 : decode cX12_wanted 11 = .ok (.iconst 0, 1) := by decide +kernel
theorem dX12_wanted_12 : decode cX12_wanted 12 = .ok (.istore_n 2, 1) := by decide +kernel
theorem dX12_wanted_13 : decode cX12_wanted 13 = .ok (.iconst 0, 1) := by decide +kernel
theorem dX12_wanted_14 : decode cX12_wanted 14 = .ok (.istore_n 3, 1) := by decide +kernel
theorem dX12_wanted_15 : decode cX12_wanted 15 = .ok (.iload_n 3, 1) := by decide +kernel
theorem dX12_wanted_16 : decode cX12_wanted 16 = .ok (.iconst 4, 1) := by decide +kernel
theorem dX12_wanted_17 : decode cX12_wanted 17 = .ok (.if_icmp .ge 67, 3) := by decide +kernel
theorem dX12_wanted_20 : decode cX12_wanted 20 = .ok (.aload_n 0, 1) := by decide +kernel
theorem dX12_wanted_21 : decode cX12_wanted 21 = .ok (.getfield 200, 3) := by decide +kernel
theorem dX12_wanted_24 : decode cX12_wanted 24 = .ok (.aload_n 0, 1) := by decide +kernel
theorem dX12_wanted_25 : decode cX12_wanted 25 = .ok (.getfield 181, 3) := by decide +kernel
theorem dX12_wanted_28 : decode cX12_wanted 28 = .ok (.if_icmp .ge 56, 3) := by decide +kernel
theorem dX12_wanted_31 : decode cX12_wanted 31 = .ok (.aload_n 0, 1) := by decide +kernel
theorem dX12_wanted_32 : decode cX12_wanted 32 = .ok (.getfield 65, 3) := by decide +kernel
theorem dX12_wanted_35 : decode cX12_wanted 35 = .ok (.aload_n 0, 1) := by decide +kernel
theorem dX12_wanted_36 : decode cX12_wanted 36 = .ok (.getfield 200, 3) := by decide +kernel
theorem dX12_wanted_39 : decode cX12_wanted 39 = .ok (.iaload, 1) := by decide +kernel
theorem dX12_wanted_40 : decode cX12_wanted 40 = .ok (.bipush 48, 2) := by decide +kernel
theorem dX12_wanted_42 : decode cX12_wanted 42 = .ok (.bipush 57, 2) := by decide +kernel
theorem dX12_wanted_44 : decode cX12_wanted 44 = .ok (.invokestatic 117, 3) := by decide +kernel
theorem dX12_wanted_47 : decode cX12_wanted 47 = .ok (.ifCond .eq 37, 3) := by decide +kernel
theorem dX12_wanted_50 : decode cX12_wanted 50 = .ok (.bipush 10, 2) := by decide +kernel
theorem dX12_wanted_52 : decode cX12_wanted 52 = .ok (.iload_n 2, 1) := by decide +kernel
theorem dX12_wanted_53 : decode cX12_wanted 53 = .ok (.imul, 1) := by decide +kernel
theorem dX12_wanted_54 : decode cX12_wanted 54 = .ok (.aload_n 0, 1) := by decide +kernel
theorem dX12_wanted_55 : decode cX12_wanted 55 = .ok (.getfield 65, 3) := by decide +kernel
theorem dX12_wanted_58 : decode cX12_wanted 58 = .ok (.aload_n 0, 1) := by decide +kernel
theorem dX12_wanted_59 : decode cX12_wanted 59 = .ok (.getfield 200, 3) := by decide +kernel
theorem dX12_wanted_62 : decode cX12_wanted 62 = .ok (.iaload, 1) := by decide +kernel
theorem dX12_wanted_63 : decode cX12_wanted 63 = .ok (.iadd, 1) := by decide +kernel
theorem dX12_wanted_64 : decode cX12_wanted 64 = .ok (.bipush 48, 2) := by decide +kernel
theorem dX12_wanted_66 : decode cX12_wanted 66 = .ok (.isub, 1) := by decide +kernel
theorem dX12_wanted_67 : decode cX12_wanted 67 = .ok (.istore_n 2, 1) := by decide +kernel
theorem dX12_wanted_68 : decode cX12_wanted 68 = .ok (.aload_n 0, 1) := by decide +kernel
theorem dX12_wanted_69 : decode cX12_wanted 69 = .ok (.dup, 1) := by decide +kernel
theorem dX12_wanted_70 : decode cX12_wanted 70 = .ok (.getfield 200, 3) := by decide +kernel
theorem dX12_wanted_73 : decode cX12_wanted 73 = .ok (.iconst 1, 1) := by decide +kernel
theorem dX12_wanted_74 : decode cX12_wanted 74 = .ok (.iadd, 1) := by decide +kernel
theorem dX12_wanted_75 : decode cX12_wanted 75 = .ok (.putfield 200, 3) := by decide +kernel
theorem dX12_wanted_78 : decode cX12_wanted 78 = .ok (.iinc 3 1, 3) := by decide +kernel
theorem dX12_wanted_81 : decode cX12_wanted 81 = .ok (.goto (-66), 3) := by decide +kernel
theorem dX12_wanted_84 : decode cX12_wanted 84 = .ok (.aload_n 0, 1) := by decide +kernel
theorem dX12_wanted_85 : decode cX12_wanted 85 = .ok (.sipush 1000, 3) := by decide +kernel
theorem dX12_wanted_88 : decode cX12_wanted 88 = .ok (.iload_n 2, 1) := by decide +kernel
theorem dX12_wanted_89 : decode cX12_wanted 89 = .ok (.iadd, 1) := by decide +kernel
theorem dX12_wanted_90 : decode cX12_wanted 90 = .ok (.invokevirtual 193, 3) := by decide +kernel
theorem dX12_wanted_93 : decode cX12_wanted 93 = .ok (.aload_n 0, 1) := by decide +kernel
theorem dX12_wanted_94 : decode cX12_wanted 94 = .ok (.invokevirtual 203, 3) := by decide +kernel
theorem dX12_wanted_97 : decode cX12_wanted 97 = .ok (.iconst 1, 1) := by decide +kernel
theorem dX12_wanted_98 : decode cX12_wanted 98 = .ok (.ireturn, 1) := by decide +kernel
theorem dX12_wanted_99 : decode cX12_wanted 99 = .ok (.iload_n 1, 1) := by decide +kernel
theorem dX12_wanted_100 : decode cX12_wanted 100 = .ok (.invokestatic 206, 3) := by decide +kernel
theorem dX12_wanted_103 : decode cX12_wanted 103 = .ok (.ifCond .eq 24, 3) := by decide +kernel
theorem dX12_wanted_106 : decode cX12_wanted 106 = .ok (.aload_n 0, 1) := by decide +kernel
theorem dX12_wanted_107 : decode cX12_wanted 107 = .ok (.iload_n 1, 1) := by decide +kernel
theorem dX12_wanted_108 : decode cX12_wanted 108 = .ok (.invokevirtual 193, 3) := by decide +kernel
theorem dX12_wanted_111 : decode cX12_wanted 111 = .ok (.aload_n 0, 1) := by decide +kernel
theorem dX12_wanted_112 : decode cX12_wanted 112 = .ok (.dup, 1) := by decide +kernel
theorem dX12_wanted_113 : decode cX12_wanted 113 = .ok (.getfield 200, 3) := by decide +kernel
theorem dX12_wanted_116 : decode cX12_wanted 116 = .ok (.iconst 1, 1) := by decide +kernel
theorem dX12_wanted_117 : decode cX12_wanted 117 = .ok (.iadd, 1) := by decide +kernel
theorem dX12_wanted_118 : decode cX12_wanted 118 = .ok (.putfield 200, 3) := by decide +kernel
theorem dX12_wanted_121 : decode cX12_wanted 121 = .ok (.aload_n 0, 1) := by decide +kernel
theorem dX12_wanted_122 : decode cX12_wanted 122 = .ok (.invokevirtual 203, 3) := by decide +kernel
theorem dX12_wanted_125 : decode cX12_wanted 125 = .ok (.iconst 1, 1) := by decide +kernel
theorem dX12_wanted_126 : decode cX12_wanted 126 = .ok (.ireturn, 1) := by decide +kernel
theorem dX12_wanted_127 : decode cX12_wanted 127 = .ok (.iload_n 1, 1) := by decide +kernel
theorem dX12_wanted_128 : decode cX12_wanted 128 = .ok (.bipush 33, 2) := by decide +kernel
theorem dX12_wanted_130 : decode cX12_wanted 130 = .ok (.if_icmp .eq 15, 3) := by decide +kernel
theorem dX12_wanted_133 : decode cX12_wanted 133 = .ok (.iload_n 1, 1) := by decide +kernel
theorem dX12_wanted_134 : decode cX12_wanted 134 = .ok (.bipush 45, 2) := by decide +kernel
theorem dX12_wanted_136 : decode cX12_wanted 136 = .ok (.if_icmp .eq 9, 3) := by decide +kernel
theorem dX12_wanted_139 : decode cX12_wanted 139 = .ok (.iload_n 1, 1) := by decide +kernel
theorem dX12_wanted_140 : decode cX12_wanted 140 = .ok (.bipush 40, 2) := by decide +kernel
theorem dX12_wanted_142 : decode cX12_wanted 142 = .ok (.if_icmp .ne 12, 3) := by decide +kernel
theorem dX12_wanted_145 : decode cX12_wanted 145 = .ok (.aload_n 0, 1) := by decide +kernel
theorem dX12_wanted_146 : decode cX12_wanted 146 = .ok (.getfield 197, 3) := by decide +kernel
theorem dX12_wanted_149 : decode cX12_wanted 149 = .ok (.bipush 6, 2) := by decide +kernel
theorem dX12_wanted_151 : decode cX12_wanted 151 = .ok (.if_icmp .ne 5, 3) := by decide +kernel
theorem dX12_wanted_154 : decode cX12_wanted 154 = .ok (.iconst (-1), 1) := by decide +kernel
theorem dX12_wanted_155 : decode cX12_wanted 155 = .ok (.ireturn, 1) := by decide +kernel
theorem dX12_wanted_156 : decode cX12_wanted 156 = .ok (.aload_n 0, 1) := by decide +kernel
theorem dX12_wanted_157 : decode cX12_wanted 157 = .ok (.getfield 74, 3) := by decide +kernel
theorem dX12_wanted_160 : decode cX12_wanted 160 = .ok (.aload_n 0, 1) := by decide +kernel
theorem dX12_wanted_161 : decode cX12_wanted 161 = .ok (.getfield 187, 3) := by decide +kernel
theorem dX12_wanted_164 : decode cX12_wanted 164 = .ok (.iload_n 1, 1) := by decide +kernel
theorem dX12_wanted_165 : decode cX12_wanted 165 = .ok (.bipush 45, 2) := by decide +kernel
theorem dX12_wanted_167 : decode cX12_wanted 167 = .ok (.if_icmp .ne 8, 3) := by decide +kernel
theorem dX12_wanted_170 : decode cX12_wanted 170 = .ok (.bipush 95, 2) := by decide +kernel
theorem dX12_wanted_172 : decode cX12_wanted 172 = .ok (.goto 4, 3) := by decide +kernel
theorem dX12_wanted_175 : decode cX12_wanted 175 = .ok (.iload_n 1, 1) := by decide +kernel
theorem dX12_wanted_176 : decode cX12_wanted 176 = .ok (.iastore, 1) := by decide +kernel
theorem dX12_wanted_177 : decode cX12_wanted 177 = .ok (.aload_n 0, 1) := by decide +kernel
theorem dX12_wanted_178 : decode cX12_wanted 178 = .ok (.dup, 1) := by decide +kernel
theorem dX12_wanted_179 : decode cX12_wanted 179 = .ok (.getfield 187, 3) := by decide +kernel
theorem dX12_wanted_182 : decode cX12_wanted 182 = .ok (.iconst 1, 1) := by decide +kernel
theorem dX12_wanted_183 : decode cX12_wanted 183 = .ok (.iadd, 1) := by decide +kernel
theorem dX12_wanted_184 : decode cX12_wanted 184 = .ok (.putfield 187, 3) := by decide +kernel
theorem dX12_wanted_187 : decode cX12_wanted 187 = .ok (.aload_n 0, 1) := by decide +kernel
theorem dX12_wanted_188 : decode cX12_wanted 188 = .ok (.dup, 1) := by decide +kernel
theorem dX12_wanted_189 : decode cX12_wanted 189 = .ok (.getfield 197, 3) := by decide +kernel
theorem dX12_wanted_192 : decode cX12_wanted 192 = .ok (.iconst 1, 1) := by decide +kernel
theorem dX12_wanted_193 : decode cX12_wanted 193 = .ok (.iadd, 1) := by decide +kernel
theorem dX12_wanted_194 : decode cX12_wanted 194 = .ok (.putfield 197, 3) := by decide +kernel
theorem dX12_wanted_197 : decode cX12_wanted 197 = .ok (.aload_n 0, 1) := by decide +kernel
theorem dX12_wanted_198 : decode cX12_wanted 198 = .ok (.dup, 1) := by decide +kernel
theorem dX12_wanted_199 : decode cX12_wanted 199 = .ok (.getfield 200, 3) := by decide +kernel
theorem dX12_wanted_202 : decode cX12_wanted 202 = .ok (.iconst 1, 1) := by decide +kernel
theorem dX12_wanted_203 : decode cX12_wanted 203 = .ok (.iadd, 1) := by decide +kernel
theorem dX12_wanted_204 : decode cX12_wanted 204 = .ok (.putfield 200, 3) := by decide +kernel
theorem dX12_wanted_207 : decode cX12_wanted 207 = .ok (.iload_n 1, 1) := by decide +kernel
theorem dX12_wanted_208 : decode cX12_wanted 208 = .ok (.bipush 40, 2) := by decide +kernel
theorem dX12_wanted_210 : decode cX12_wanted 210 = .ok (.if_icmp .ne 23, 3) := by decide +kernel
theorem dX12_wanted_213 : decode cX12_wanted 213 = .ok (.aload_n 0, 1) := by decide +kernel
theorem dX12_wanted_214 : decode cX12_wanted 214 = .ok (.dup, 1) := by decide +kernel
theorem dX12_wanted_215 : decode cX12_wanted 215 = .ok (.getfield 209, 3) := by decide +kernel
theorem dX12_wanted_218 : decode cX12_wanted 218 = .ok (.iconst 1, 1) := by decide +kernel
theorem dX12_wanted_219 : decode cX12_wanted 219 = .ok (.iadd, 1) := by decide +kernel
theorem dX12_wanted_220 : decode cX12_wanted 220 = .ok (.putfield 209, 3) := by decide +kernel
theorem dX12_wanted_223 : decode cX12_wanted 223 = .ok (.aload_n 0, 1) := by decide +kernel
theorem dX12_wanted_224 : decode cX12_wanted 224 = .ok (.getfield 77, 3) := by decide +kernel
theorem dX12_wanted_227 : decode cX12_wanted 227 = .ok (.aload_n 0, 1) := by decide +kernel
theorem dX12_wanted_228 : decode cX12_wanted 228 = .ok (.getfield 209, 3) := by decide +kernel
theorem dX12_wanted_231 : decode cX12_wanted 231 = .ok (.iconst 0, 1) := by decide +kernel
theorem dX12_wanted_232 : decode cX12_wanted 232 = .ok (.iastore, 1) := by decide +kernel
theorem dX12_wanted_233 : decode cX12_wanted 233 = .ok (.iconst 0, 1) := by decide +kernel
theorem dX12_wanted_234 : decode cX12_wanted 234 = .ok (.ireturn, 1) := by decide +kernel
theorem dX12_closes_0 : decode cX12_closes 0 = .ok (.aload_n 0, 1) := by decide +kernel
theorem dX12_closes_1 : decode cX12_closes 1 = .ok (.getfield 209, 3) := by decide +kernel
theorem dX12_closes_4 : decode cX12_closes 4 = .ok (.ifCond .ne 5, 3) := by decide +kernel
theorem dX12_closes_7 : decode cX12_closes 7 = .ok (.iconst 0, 1) := by decide +kernel
theorem dX12_closes_8 : decode cX12_closes 8 = .ok (.ireturn, 1) := by decide +kernel
theorem dX12_closes_9 : decode cX12_closes 9 = .ok (.aload_n 0, 1) := by decide +kernel
theorem dX12_closes_10 : decode cX12_closes 10 = .ok (.iconst 0, 1) := by decide +kernel
theorem dX12_closes_11 : decode cX12_closes 11 = .ok (.invokevirtual 212, 3) := by decide +kernel
theorem dX12_closes_14 : decode cX12_closes 14 = .ok (.aload_n 0, 1) := by decide +kernel
theorem dX12_closes_15 : decode cX12_closes 15 = .ok (.dup, 1) := by decide +kernel
theorem dX12_closes_16 : decode cX12_closes 16 = .ok (.getfield 187, 3) := by decide +kernel
theorem dX12_closes_19 : decode cX12_closes 19 = .ok (.iconst 1, 1) := by decide +kernel
theorem dX12_closes_20 : decode cX12_closes 20 = .ok (.isub, 1) := by decide +kernel
theorem dX12_closes_21 : decode cX12_closes 21 = .ok (.putfield 187, 3) := by decide +kernel
theorem dX12_closes_24 : decode cX12_closes 24 = .ok (.aload_n 0, 1) := by decide +kernel
theorem dX12_closes_25 : decode cX12_closes 25 = .ok (.dup, 1) := by decide +kernel
theorem dX12_closes_26 : decode cX12_closes 26 = .ok (.getfield 197, 3) := by decide +kernel
theorem dX12_closes_29 : decode cX12_closes 29 = .ok (.iconst 1, 1) := by decide +kernel
theorem dX12_closes_30 : decode cX12_closes 30 = .ok (.isub, 1) := by decide +kernel
theorem dX12_closes_31 : decode cX12_closes 31 = .ok (.putfield 197, 3) := by decide +kernel
theorem dX12_closes_34 : decode cX12_closes 34 = .ok (.aload_n 0, 1) := by decide +kernel
theorem dX12_closes_35 : decode cX12_closes 35 = .ok (.dup, 1) := by decide +kernel
theorem dX12_closes_36 : decode cX12_closes 36 = .ok (.getfield 209, 3) := by decide +kernel
theorem dX12_closes_39 : decode cX12_closes 39 = .ok (.iconst 1, 1) := by decide +kernel
theorem dX12_closes_40 : decode cX12_closes 40 = .ok (.isub, 1) := by decide +kernel
theorem dX12_closes_41 : decode cX12_closes 41 = .ok (.putfield 209, 3) := by decide +kernel
theorem dX12_closes_44 : decode cX12_closes 44 = .ok (.aload_n 0, 1) := by decide +kernel
theorem dX12_closes_45 : decode cX12_closes 45 = .ok (.invokevirtual 203, 3) := by decide +kernel
theorem dX12_closes_48 : decode cX12_closes 48 = .ok (.aload_n 0, 1) := by decide +kernel
theorem dX12_closes_49 : decode cX12_closes 49 = .ok (.dup, 1) := by decide +kernel
theorem dX12_closes_50 : decode cX12_closes 50 = .ok (.getfield 200, 3) := by decide +kernel
theorem dX12_closes_53 : decode cX12_closes 53 = .ok (.iconst 1, 1) := by decide +kernel
theorem dX12_closes_54 : decode cX12_closes 54 = .ok (.iadd, 1) := by decide +kernel
theorem dX12_closes_55 : decode cX12_closes 55 = .ok (.putfield 200, 3) := by decide +kernel
theorem dX12_closes_58 : decode cX12_closes 58 = .ok (.iconst 1, 1) := by decide +kernel
theorem dX12_closes_59 : decode cX12_closes 59 = .ok (.ireturn, 1) := by decide +kernel
theorem dX12_behind_0 : decode cX12_behind 0 = .ok (.iload_n 1, 1) := by decide +kernel
theorem dX12_behind_1 : decode cX12_behind 1 = .ok (.bipush 41, 2) := by decide +kernel
theorem dX12_behind_3 : decode cX12_behind 3 = .ok (.if_icmp .ne 16, 3) := by decide +kernel
theorem dX12_behind_6 : decode cX12_behind 6 = .ok (.aload_n 0, 1) := by decide +kernel
theorem dX12_behind_7 : decode cX12_behind 7 = .ok (.invokevirtual 215, 3) := by decide +kernel
theorem dX12_behind_10 : decode cX12_behind 10 = .ok (.ifCond .eq 7, 3) := by decide +kernel
theorem dX12_behind_13 : decode cX12_behind 13 = .ok (.iconst 0, 1) := by decide +kernel
theorem dX12_behind_14 : decode cX12_behind 14 = .ok (.goto 4, 3) := by decide +kernel
theorem dX12_behind_17 : decode cX12_behind 17 = .ok (.iconst (-1), 1) := by decide +kernel
theorem dX12_behind_18 : decode cX12_behind 18 = .ok (.ireturn, 1) := by decide +kernel
theorem dX12_behind_19 : decode cX12_behind 19 = .ok (.iload_n 1, 1) := by decide +kernel
theorem dX12_behind_20 : decode cX12_behind 20 = .ok (.bipush 63, 2) := by decide +kernel
theorem dX12_behind_22 : decode cX12_behind 22 = .ok (.if_icmp .eq 9, 3) := by decide +kernel
theorem dX12_behind_25 : decode cX12_behind 25 = .ok (.iload_n 1, 1) := by decide +kernel
theorem dX12_behind_26 : decode cX12_behind 26 = .ok (.bipush 59, 2) := by decide +kernel
theorem dX12_behind_28 : decode cX12_behind 28 = .ok (.if_icmp .ne 83, 3) := by decide +kernel
theorem dX12_behind_31 : decode cX12_behind 31 = .ok (.aload_n 0, 1) := by decide +kernel
theorem dX12_behind_32 : decode cX12_behind 32 = .ok (.getfield 209, 3) := by decide +kernel
theorem dX12_behind_35 : decode cX12_behind 35 = .ok (.ifCond .gt 16, 3) := by decide +kernel
theorem dX12_behind_38 : decode cX12_behind 38 = .ok (.iload_n 1, 1) := by decide +kernel
theorem dX12_behind_39 : decode cX12_behind 39 = .ok (.bipush 63, 2) := by decide +kernel
theorem dX12_behind_41 : decode cX12_behind 41 = .ok (.if_icmp .ne 12, 3) := by decide +kernel
theorem dX12_behind_44 : decode cX12_behind 44 = .ok (.aload_n 0, 1) := by decide +kernel
theorem dX12_behind_45 : decode cX12_behind 45 = .ok (.getfield 219, 3) := by decide +kernel
theorem dX12_behind_48 : decode cX12_behind 48 = .ok (.ifCond .eq 5, 3) := by decide +kernel
theorem dX12_behind_51 : decode cX12_behind 51 = .ok (.iconst (-1), 1) := by decide +kernel
theorem dX12_behind_52 : decode cX12_behind 52 = .ok (.ireturn, 1) := by decide +kernel
theorem dX12_behind_53 : decode cX12_behind 53 = .ok (.aload_n 0, 1) := by decide +kernel
theorem dX12_behind_54 : decode cX12_behind 54 = .ok (.iconst 0, 1) := by decide +kernel
theorem dX12_behind_55 : decode cX12_behind 55 = .ok (.invokevirtual 212, 3) := by decide +kernel
theorem dX12_behind_58 : decode cX12_behind 58 = .ok (.aload_n 0, 1) := by decide +kernel
theorem dX12_behind_59 : decode cX12_behind 59 = .ok (.iload_n 1, 1) := by decide +kernel
theorem dX12_behind_60 : decode cX12_behind 60 = .ok (.bipush 63, 2) := by decide +kernel
theorem dX12_behind_62 : decode cX12_behind 62 = .ok (.if_icmp .ne 9, 3) := by decide +kernel
theorem dX12_behind_65 : decode cX12_behind 65 = .ok (.sipush 900, 3) := by decide +kernel
theorem dX12_behind_68 : decode cX12_behind 68 = .ok (.goto 6, 3) := by decide +kernel
theorem dX12_behind_71 : decode cX12_behind 71 = .ok (.sipush 901, 3) := by decide +kernel
theorem dX12_behind_74 : decode cX12_behind 74 = .ok (.invokevirtual 193, 3) := by decide +kernel
theorem dX12_behind_77 : decode cX12_behind 77 = .ok (.aload_n 0, 1) := by decide +kernel
theorem dX12_behind_78 : decode cX12_behind 78 = .ok (.iload_n 1, 1) := by decide +kernel
theorem dX12_behind_79 : decode cX12_behind 79 = .ok (.bipush 63, 2) := by decide +kernel
theorem dX12_behind_81 : decode cX12_behind 81 = .ok (.if_icmp .ne 7, 3) := by decide +kernel
theorem dX12_behind_84 : decode cX12_behind 84 = .ok (.iconst 1, 1) := by decide +kernel
theorem dX12_behind_85 : decode cX12_behind 85 = .ok (.goto 4, 3) := by decide +kernel
theorem dX12_behind_88 : decode cX12_behind 88 = .ok (.iconst 0, 1) := by decide +kernel
theorem dX12_behind_89 : decode cX12_behind 89 = .ok (.putfield 219, 3) := by decide +kernel
theorem dX12_behind_92 : decode cX12_behind 92 = .ok (.aload_n 0, 1) := by decide +kernel
theorem dX12_behind_93 : decode cX12_behind 93 = .ok (.getfield 77, 3) := by decide +kernel
theorem dX12_behind_96 : decode cX12_behind 96 = .ok (.iconst 0, 1) := by decide +kernel
theorem dX12_behind_97 : decode cX12_behind 97 = .ok (.iconst 0, 1) := by decide +kernel
theorem dX12_behind_98 : decode cX12_behind 98 = .ok (.iastore, 1) := by decide +kernel
theorem dX12_behind_99 : decode cX12_behind 99 = .ok (.aload_n 0, 1) := by decide +kernel
theorem dX12_behind_100 : decode cX12_behind 100 = .ok (.dup, 1) := by decide +kernel
theorem dX12_behind_101 : decode cX12_behind 101 = .ok (.getfield 200, 3) := by decide +kernel
theorem dX12_behind_104 : decode cX12_behind 104 = .ok (.iconst 1, 1) := by decide +kernel
theorem dX12_behind_105 : decode cX12_behind 105 = .ok (.iadd, 1) := by decide +kernel
theorem dX12_behind_106 : decode cX12_behind 106 = .ok (.putfield 200, 3) := by decide +kernel
theorem dX12_behind_109 : decode cX12_behind 109 = .ok (.iconst 1, 1) := by decide +kernel
theorem dX12_behind_110 : decode cX12_behind 110 = .ok (.ireturn, 1) := by decide +kernel
theorem dX12_behind_111 : decode cX12_behind 111 = .ok (.iload_n 1, 1) := by decide +kernel
theorem dX12_behind_112 : decode cX12_behind 112 = .ok (.invokestatic 190, 3) := by decide +kernel
theorem dX12_behind_115 : decode cX12_behind 115 = .ok (.istore_n 2, 1) := by decide +kernel
theorem dX12_behind_116 : decode cX12_behind 116 = .ok (.iload_n 2, 1) := by decide +kernel
theorem dX12_behind_117 : decode cX12_behind 117 = .ok (.ifCond .eq 21, 3) := by decide +kernel
theorem dX12_behind_120 : decode cX12_behind 120 = .ok (.iload_n 2, 1) := by decide +kernel
theorem dX12_behind_121 : decode cX12_behind 121 = .ok (.iconst 3, 1) := by decide +kernel
theorem dX12_behind_122 : decode cX12_behind 122 = .ok (.if_icmp .ne 18, 3) := by decide +kernel
theorem dX12_behind_125 : decode cX12_behind 125 = .ok (.aload_n 0, 1) := by decide +kernel
theorem dX12_behind_126 : decode cX12_behind 126 = .ok (.getfield 77, 3) := by decide +kernel
theorem dX12_behind_129 : decode cX12_behind 129 = .ok (.aload_n 0, 1) := by decide +kernel
theorem dX12_behind_130 : decode cX12_behind 130 = .ok (.getfield 209, 3) := by decide +kernel
theorem dX12_behind_133 : decode cX12_behind 133 = .ok (.iaload, 1) := by decide +kernel
theorem dX12_behind_134 : decode cX12_behind 134 = .ok (.iconst 1, 1) := by decide +kernel
theorem dX12_behind_135 : decode cX12_behind 135 = .ok (.if_icmp .ne 5, 3) := by decide +kernel
theorem dX12_behind_138 : decode cX12_behind 138 = .ok (.iconst (-1), 1) := by decide +kernel
theorem dX12_behind_139 : decode cX12_behind 139 = .ok (.ireturn, 1) := by decide +kernel
theorem dX12_behind_140 : decode cX12_behind 140 = .ok (.aload_n 0, 1) := by decide +kernel
theorem dX12_behind_141 : decode cX12_behind 141 = .ok (.iload_n 2, 1) := by decide +kernel
theorem dX12_behind_142 : decode cX12_behind 142 = .ok (.invokevirtual 212, 3) := by decide +kernel
theorem dX12_behind_145 : decode cX12_behind 145 = .ok (.iload_n 2, 1) := by decide +kernel
theorem dX12_behind_146 : decode cX12_behind 146 = .ok (.iconst 3, 1) := by decide +kernel
theorem dX12_behind_147 : decode cX12_behind 147 = .ok (.if_icmp .ge 13, 3) := by decide +kernel
theorem dX12_behind_150 : decode cX12_behind 150 = .ok (.aload_n 0, 1) := by decide +kernel
theorem dX12_behind_151 : decode cX12_behind 151 = .ok (.getfield 77, 3) := by decide +kernel
theorem dX12_behind_154 : decode cX12_behind 154 = .ok (.aload_n 0, 1) := by decide +kernel
theorem dX12_behind_155 : decode cX12_behind 155 = .ok (.getfield 209, 3) := by decide +kernel
theorem dX12_behind_158 : decode cX12_behind 158 = .ok (.iconst 0, 1) := by decide +kernel
theorem dX12_behind_159 : decode cX12_behind 159 = .ok (.iastore, 1) := by decide +kernel
theorem dX12_behind_160 : decode cX12_behind 160 = .ok (.iload_n 2, 1) := by decide +kernel
theorem dX12_behind_161 : decode cX12_behind 161 = .ok (.iconst 3, 1) := by decide +kernel
theorem dX12_behind_162 : decode cX12_behind 162 = .ok (.if_icmp .ne 13, 3) := by decide +kernel
theorem dX12_behind_165 : decode cX12_behind 165 = .ok (.aload_n 0, 1) := by decide +kernel
theorem dX12_behind_166 : decode cX12_behind 166 = .ok (.getfield 77, 3) := by decide +kernel
theorem dX12_behind_169 : decode cX12_behind 169 = .ok (.aload_n 0, 1) := by decide +kernel
theorem dX12_behind_170 : decode cX12_behind 170 = .ok (.getfield 209, 3) := by decide +kernel
theorem dX12_behind_173 : decode cX12_behind 173 = .ok (.iconst 1, 1) := by decide +kernel
theorem dX12_behind_174 : decode cX12_behind 174 = .ok (.iastore, 1) := by decide +kernel
theorem dX12_behind_175 : decode cX12_behind 175 = .ok (.aload_n 0, 1) := by decide +kernel
theorem dX12_behind_176 : decode cX12_behind 176 = .ok (.getfield 74, 3) := by decide +kernel
theorem dX12_behind_179 : decode cX12_behind 179 = .ok (.aload_n 0, 1) := by decide +kernel
theorem dX12_behind_180 : decode cX12_behind 180 = .ok (.getfield 187, 3) := by decide +kernel
theorem dX12_behind_183 : decode cX12_behind 183 = .ok (.iload_n 1, 1) := by decide +kernel
theorem dX12_behind_184 : decode cX12_behind 184 = .ok (.iastore, 1) := by decide +kernel
theorem dX12_behind_185 : decode cX12_behind 185 = .ok (.aload_n 0, 1) := by decide +kernel
theorem dX12_behind_186 : decode cX12_behind 186 = .ok (.dup, 1) := by decide +kernel
theorem dX12_behind_187 : decode cX12_behind 187 = .ok (.getfield 187, 3) := by decide +kernel
theorem dX12_behind_190 : decode cX12_behind 190 = .ok (.iconst 1, 1) := by decide +kernel
theorem dX12_behind_191 : decode cX12_behind 191 = .ok (.iadd, 1) := by decide +kernel
theorem dX12_behind_192 : decode cX12_behind 192 = .ok (.putfield 187, 3) := by decide +kernel
theorem dX12_behind_195 : decode cX12_behind 195 = .ok (.aload_n 0, 1) := by decide +kernel
theorem dX12_behind_196 : decode cX12_behind 196 = .ok (.dup, 1) := by decide +kernel
theorem dX12_behind_197 : decode cX12_behind 197 = .ok (.getfield 200, 3) := by decide +kernel
theorem dX12_behind_200 : decode cX12_behind 200 = .ok (.iconst 1, 1) := by decide +kernel
theorem dX12_behind_201 : decode cX12_behind 201 = .ok (.iadd, 1) := by decide +kernel
theorem dX12_behind_202 : decode cX12_behind 202 = .ok (.putfield 200, 3) := by decide +kernel
theorem dX12_behind_205 : decode cX12_behind 205 = .ok (.iconst 1, 1) := by decide +kernel
theorem dX12_behind_206 : decode cX12_behind 206 = .ok (.ireturn, 1) := by decide +kernel
theorem dX12_reads_0 : decode cX12_reads 0 = .ok (.aload_n 0, 1) := by decide +kernel
theorem dX12_reads_1 : decode cX12_reads 1 = .ok (.iconst 0, 1) := by decide +kernel
theorem dX12_reads_2 : decode cX12_reads 2 = .ok (.putfield 200, 3) := by decide +kernel
theorem dX12_reads_5 : decode cX12_reads 5 = .ok (.aload_n 0, 1) := by decide +kernel
theorem dX12_reads_6 : decode cX12_reads 6 = .ok (.aload_n 0, 1) := by decide +kernel
theorem dX12_reads_7 : decode cX12_reads 7 = .ok (.getfield 71, 3) := by decide +kernel
theorem dX12_reads_10 : decode cX12_reads 10 = .ok (.aload_n 0, 1) := by decide +kernel
theorem dX12_reads_11 : decode cX12_reads 11 = .ok (.getfield 223, 3) := by decide +kernel
theorem dX12_reads_14 : decode cX12_reads 14 = .ok (.iaload, 1) := by decide +kernel
theorem dX12_reads_15 : decode cX12_reads 15 = .ok (.putfield 184, 3) := by decide +kernel
theorem dX12_reads_18 : decode cX12_reads 18 = .ok (.aload_n 0, 1) := by decide +kernel
theorem dX12_reads_19 : decode cX12_reads 19 = .ok (.iconst 0, 1) := by decide +kernel
theorem dX12_reads_20 : decode cX12_reads 20 = .ok (.putfield 187, 3) := by decide +kernel
theorem dX12_reads_23 : decode cX12_reads 23 = .ok (.aload_n 0, 1) := by decide +kernel
theorem dX12_reads_24 : decode cX12_reads 24 = .ok (.iconst 0, 1) := by decide +kernel
theorem dX12_reads_25 : decode cX12_reads 25 = .ok (.putfield 197, 3) := by decide +kernel
theorem dX12_reads_28 : decode cX12_reads 28 = .ok (.aload_n 0, 1) := by decide +kernel
theorem dX12_reads_29 : decode cX12_reads 29 = .ok (.iconst 0, 1) := by decide +kernel
theorem dX12_reads_30 : decode cX12_reads 30 = .ok (.putfield 209, 3) := by decide +kernel
theorem dX12_reads_33 : decode cX12_reads 33 = .ok (.aload_n 0, 1) := by decide +kernel
theorem dX12_reads_34 : decode cX12_reads 34 = .ok (.getfield 77, 3) := by decide +kernel
theorem dX12_reads_37 : decode cX12_reads 37 = .ok (.iconst 0, 1) := by decide +kernel
theorem dX12_reads_38 : decode cX12_reads 38 = .ok (.iconst 0, 1) := by decide +kernel
theorem dX12_reads_39 : decode cX12_reads 39 = .ok (.iastore, 1) := by decide +kernel
theorem dX12_reads_40 : decode cX12_reads 40 = .ok (.aload_n 0, 1) := by decide +kernel
theorem dX12_reads_41 : decode cX12_reads 41 = .ok (.iconst 0, 1) := by decide +kernel
theorem dX12_reads_42 : decode cX12_reads 42 = .ok (.putfield 219, 3) := by decide +kernel
theorem dX12_reads_45 : decode cX12_reads 45 = .ok (.iconst 1, 1) := by decide +kernel
theorem dX12_reads_46 : decode cX12_reads 46 = .ok (.istore_n 1, 1) := by decide +kernel
theorem dX12_reads_47 : decode cX12_reads 47 = .ok (.aload_n 0, 1) := by decide +kernel
theorem dX12_reads_48 : decode cX12_reads 48 = .ok (.getfield 200, 3) := by decide +kernel
theorem dX12_reads_51 : decode cX12_reads 51 = .ok (.aload_n 0, 1) := by decide +kernel
theorem dX12_reads_52 : decode cX12_reads 52 = .ok (.getfield 181, 3) := by decide +kernel
theorem dX12_reads_55 : decode cX12_reads 55 = .ok (.if_icmp .ge 74, 3) := by decide +kernel
theorem dX12_reads_58 : decode cX12_reads 58 = .ok (.iload_n 1, 1) := by decide +kernel
theorem dX12_reads_59 : decode cX12_reads 59 = .ok (.ifCond .eq 19, 3) := by decide +kernel
theorem dX12_reads_62 : decode cX12_reads 62 = .ok (.aload_n 0, 1) := by decide +kernel
theorem dX12_reads_63 : decode cX12_reads 63 = .ok (.aload_n 0, 1) := by decide +kernel
theorem dX12_reads_64 : decode cX12_reads 64 = .ok (.getfield 65, 3) := by decide +kernel
theorem dX12_reads_67 : decode cX12_reads 67 = .ok (.aload_n 0, 1) := by decide +kernel
theorem dX12_reads_68 : decode cX12_reads 68 = .ok (.getfield 200, 3) := by decide +kernel
theorem dX12_reads_71 : decode cX12_reads 71 = .ok (.iaload, 1) := by decide +kernel
theorem dX12_reads_72 : decode cX12_reads 72 = .ok (.invokevirtual 226, 3) := by decide +kernel
theorem dX12_reads_75 : decode cX12_reads 75 = .ok (.goto 16, 3) := by decide +kernel
theorem dX12_reads_78 : decode cX12_reads 78 = .ok (.aload_n 0, 1) := by decide +kernel
theorem dX12_reads_79 : decode cX12_reads 79 = .ok (.aload_n 0, 1) := by decide +kernel
theorem dX12_reads_80 : decode cX12_reads 80 = .ok (.getfield 65, 3) := by decide +kernel
theorem dX12_reads_83 : decode cX12_reads 83 = .ok (.aload_n 0, 1) := by decide +kernel
theorem dX12_reads_84 : decode cX12_reads 84 = .ok (.getfield 200, 3) := by decide +kernel
theorem dX12_reads_87 : decode cX12_reads 87 = .ok (.iaload, 1) := by decide +kernel
theorem dX12_reads_88 : decode cX12_reads 88 = .ok (.invokevirtual 229, 3) := by decide +kernel
theorem dX12_reads_91 : decode cX12_reads 91 = .ok (.istore_n 2, 1) := by decide +kernel
theorem dX12_reads_92 : decode cX12_reads 92 = .ok (.iload_n 2, 1) := by decide +kernel
theorem dX12_reads_93 : decode cX12_reads 93 = .ok (.ifCond .ge 5, 3) := by decide +kernel
theorem dX12_reads_96 : decode cX12_reads 96 = .ok (.iconst 0, 1) := by decide +kernel
theorem dX12_reads_97 : decode cX12_reads 97 = .ok (.ireturn, 1) := by decide +kernel
theorem dX12_reads_98 : decode cX12_reads 98 = .ok (.iload_n 1, 1) := by decide +kernel
theorem dX12_reads_99 : decode cX12_reads 99 = .ok (.ifCond .eq 16, 3) := by decide +kernel
theorem dX12_reads_102 : decode cX12_reads 102 = .ok (.iload_n 2, 1) := by decide +kernel
theorem dX12_reads_103 : decode cX12_reads 103 = .ok (.ifCond .ne 7, 3) := by decide +kernel
theorem dX12_reads_106 : decode cX12_reads 106 = .ok (.iconst 1, 1) := by decide +kernel
theorem dX12_reads_107 : decode cX12_reads 107 = .ok (.goto 4, 3) := by decide +kernel
theorem dX12_reads_110 : decode cX12_reads 110 = .ok (.iconst 0, 1) := by decide +kernel
theorem dX12_reads_111 : decode cX12_reads 111 = .ok (.istore_n 1, 1) := by decide +kernel
theorem dX12_reads_112 : decode cX12_reads 112 = .ok (.goto 14, 3) := by decide +kernel
theorem dX12_reads_115 : decode cX12_reads 115 = .ok (.iload_n 2, 1) := by decide +kernel
theorem dX12_reads_116 : decode cX12_reads 116 = .ok (.iconst 1, 1) := by decide +kernel
theorem dX12_reads_117 : decode cX12_reads 117 = .ok (.if_icmp .ne 7, 3) := by decide +kernel
theorem dX12_reads_120 : decode cX12_reads 120 = .ok (.iconst 1, 1) := by decide +kernel
theorem dX12_reads_121 : decode cX12_reads 121 = .ok (.goto 4, 3) := by decide +kernel
theorem dX12_reads_124 : decode cX12_reads 124 = .ok (.iconst 0, 1) := by decide +kernel
theorem dX12_reads_125 : decode cX12_reads 125 = .ok (.istore_n 1, 1) := by decide +kernel
theorem dX12_reads_126 : decode cX12_reads 126 = .ok (.goto (-79), 3) := by decide +kernel
theorem dX12_reads_129 : decode cX12_reads 129 = .ok (.iload_n 1, 1) := by decide +kernel
theorem dX12_reads_130 : decode cX12_reads 130 = .ok (.ifCond .ne 10, 3) := by decide +kernel
theorem dX12_reads_133 : decode cX12_reads 133 = .ok (.aload_n 0, 1) := by decide +kernel
theorem dX12_reads_134 : decode cX12_reads 134 = .ok (.getfield 209, 3) := by decide +kernel
theorem dX12_reads_137 : decode cX12_reads 137 = .ok (.ifCond .le 5, 3) := by decide +kernel
theorem dX12_reads_140 : decode cX12_reads 140 = .ok (.iconst 0, 1) := by decide +kernel
theorem dX12_reads_141 : decode cX12_reads 141 = .ok (.ireturn, 1) := by decide +kernel
theorem dX12_reads_142 : decode cX12_reads 142 = .ok (.aload_n 0, 1) := by decide +kernel
theorem dX12_reads_143 : decode cX12_reads 143 = .ok (.iconst 0, 1) := by decide +kernel
theorem dX12_reads_144 : decode cX12_reads 144 = .ok (.invokevirtual 212, 3) := by decide +kernel
theorem dX12_reads_147 : decode cX12_reads 147 = .ok (.aload_n 0, 1) := by decide +kernel
theorem dX12_reads_148 : decode cX12_reads 148 = .ok (.sipush 901, 3) := by decide +kernel
theorem dX12_reads_151 : decode cX12_reads 151 = .ok (.invokevirtual 193, 3) := by decide +kernel
theorem dX12_reads_154 : decode cX12_reads 154 = .ok (.iconst 1, 1) := by decide +kernel
theorem dX12_reads_155 : decode cX12_reads 155 = .ok (.ireturn, 1) := by decide +kernel
theorem dX12_law_0 : decode cX12_law 0 = .ok (.aload_n 0, 1) := by decide +kernel
theorem dX12_law_1 : decode cX12_law 1 = .ok (.getfield 223, 3) := by decide +kernel
theorem dX12_law_4 : decode cX12_law 4 = .ok (.iconst 4, 1) := by decide +kernel
theorem dX12_law_5 : decode cX12_law 5 = .ok (.if_icmp .ne 6, 3) := by decide +kernel
theorem dX12_law_8 : decode cX12_law 8 = .ok (.bipush (-3), 2) := by decide +kernel
theorem dX12_law_10 : decode cX12_law 10 = .ok (.ireturn, 1) := by decide +kernel
theorem dX12_law_11 : decode cX12_law 11 = .ok (.aload_n 0, 1) := by decide +kernel
theorem dX12_law_12 : decode cX12_law 12 = .ok (.invokevirtual 232, 3) := by decide +kernel
theorem dX12_law_15 : decode cX12_law 15 = .ok (.istore_n 1, 1) := by decide +kernel
theorem dX12_law_16 : decode cX12_law 16 = .ok (.aload_n 0, 1) := by decide +kernel
theorem dX12_law_17 : decode cX12_law 17 = .ok (.iconst 0, 1) := by decide +kernel
theorem dX12_law_18 : decode cX12_law 18 = .ok (.putfield 181, 3) := by decide +kernel
theorem dX12_law_21 : decode cX12_law 21 = .ok (.iload_n 1, 1) := by decide +kernel
theorem dX12_law_22 : decode cX12_law 22 = .ok (.ifCond .ne 11, 3) := by decide +kernel
theorem dX12_law_25 : decode cX12_law 25 = .ok (.bipush (-100), 2) := by decide +kernel
theorem dX12_law_27 : decode cX12_law 27 = .ok (.aload_n 0, 1) := by decide +kernel
theorem dX12_law_28 : decode cX12_law 28 = .ok (.getfield 200, 3) := by decide +kernel
theorem dX12_law_31 : decode cX12_law 31 = .ok (.isub, 1) := by decide +kernel
theorem dX12_law_32 : decode cX12_law 32 = .ok (.ireturn, 1) := by decide +kernel
theorem dX12_law_33 : decode cX12_law 33 = .ok (.aload_n 0, 1) := by decide +kernel
theorem dX12_law_34 : decode cX12_law 34 = .ok (.dup, 1) := by decide +kernel
theorem dX12_law_35 : decode cX12_law 35 = .ok (.getfield 223, 3) := by decide +kernel
theorem dX12_law_38 : decode cX12_law 38 = .ok (.iconst 1, 1) := by decide +kernel
theorem dX12_law_39 : decode cX12_law 39 = .ok (.iadd, 1) := by decide +kernel
theorem dX12_law_40 : decode cX12_law 40 = .ok (.putfield 223, 3) := by decide +kernel
theorem dX12_law_43 : decode cX12_law 43 = .ok (.aload_n 0, 1) := by decide +kernel
theorem dX12_law_44 : decode cX12_law 44 = .ok (.getfield 71, 3) := by decide +kernel
theorem dX12_law_47 : decode cX12_law 47 = .ok (.aload_n 0, 1) := by decide +kernel
theorem dX12_law_48 : decode cX12_law 48 = .ok (.getfield 223, 3) := by decide +kernel
theorem dX12_law_51 : decode cX12_law 51 = .ok (.aload_n 0, 1) := by decide +kernel
theorem dX12_law_52 : decode cX12_law 52 = .ok (.getfield 184, 3) := by decide +kernel
theorem dX12_law_55 : decode cX12_law 55 = .ok (.iastore, 1) := by decide +kernel
theorem dX12_law_56 : decode cX12_law 56 = .ok (.aload_n 0, 1) := by decide +kernel
theorem dX12_law_57 : decode cX12_law 57 = .ok (.getfield 223, 3) := by decide +kernel
theorem dX12_law_60 : decode cX12_law 60 = .ok (.iconst 1, 1) := by decide +kernel
theorem dX12_law_61 : decode cX12_law 61 = .ok (.isub, 1) := by decide +kernel
theorem dX12_law_62 : decode cX12_law 62 = .ok (.ireturn, 1) := by decide +kernel
theorem dX12_two_0 : decode cX12_two 0 = .ok (.iload_n 0, 1) := by decide +kernel
theorem dX12_two_1 : decode cX12_two 1 = .ok (.lookupswitch 168 #[(38, 97), (42, 152), (43, 144), (45, 148), (47, 156), (60, 111), (61, 122), (62, 133), (124, 83)], 83) := by decide +kernel
theorem dX12_two_84 : decode cX12_two 84 = .ok (.iload_n 1, 1) := by decide +kernel
theorem dX12_two_85 : decode cX12_two 85 = .ok (.ifCond .ne 7, 3) := by decide +kernel
theorem dX12_two_88 : decode cX12_two 88 = .ok (.iload_n 2, 1) := by decide +kernel
theorem dX12_two_89 : decode cX12_two 89 = .ok (.ifCond .eq 7, 3) := by decide +kernel
theorem dX12_two_92 : decode cX12_two 92 = .ok (.iconst 1, 1) := by decide +kernel
theorem dX12_two_93 : decode cX12_two 93 = .ok (.goto 4, 3) := by decide +kernel
theorem dX12_two_96 : decode cX12_two 96 = .ok (.iconst 0, 1) := by decide +kernel
theorem dX12_two_97 : decode cX12_two 97 = .ok (.ireturn, 1) := by decide +kernel
theorem dX12_two_98 : decode cX12_two 98 = .ok (.iload_n 1, 1) := by decide +kernel
theorem dX12_two_99 : decode cX12_two 99 = .ok (.ifCond .eq 11, 3) := by decide +kernel
theorem dX12_two_102 : decode cX12_two 102 = .ok (.iload_n 2, 1) := by decide +kernel
theorem dX12_two_103 : decode cX12_two 103 = .ok (.ifCond .eq 7, 3) := by decide +kernel
theorem dX12_two_106 : decode cX12_two 106 = .ok (.iconst 1, 1) := by decide +kernel
theorem dX12_two_107 : decode cX12_two 107 = .ok (.goto 4, 3) := by decide +kernel
theorem dX12_two_110 : decode cX12_two 110 = .ok (.iconst 0, 1) := by decide +kernel
theorem dX12_two_111 : decode cX12_two 111 = .ok (.ireturn, 1) := by decide +kernel
theorem dX12_two_112 : decode cX12_two 112 = .ok (.iload_n 1, 1) := by decide +kernel
theorem dX12_two_113 : decode cX12_two 113 = .ok (.iload_n 2, 1) := by decide +kernel
theorem dX12_two_114 : decode cX12_two 114 = .ok (.if_icmp .ge 7, 3) := by decide +kernel
theorem dX12_two_117 : decode cX12_two 117 = .ok (.iconst 1, 1) := by decide +kernel
theorem dX12_two_118 : decode cX12_two 118 = .ok (.goto 4, 3) := by decide +kernel
theorem dX12_two_121 : decode cX12_two 121 = .ok (.iconst 0, 1) := by decide +kernel
theorem dX12_two_122 : decode cX12_two 122 = .ok (.ireturn, 1) := by decide +kernel
theorem dX12_two_123 : decode cX12_two 123 = .ok (.iload_n 1, 1) := by decide +kernel
theorem dX12_two_124 : decode cX12_two 124 = .ok (.iload_n 2, 1) := by decide +kernel
theorem dX12_two_125 : decode cX12_two 125 = .ok (.if_icmp .ne 7, 3) := by decide +kernel
theorem dX12_two_128 : decode cX12_two 128 = .ok (.iconst 1, 1) := by decide +kernel
theorem dX12_two_129 : decode cX12_two 129 = .ok (.goto 4, 3) := by decide +kernel
theorem dX12_two_132 : decode cX12_two 132 = .ok (.iconst 0, 1) := by decide +kernel
theorem dX12_two_133 : decode cX12_two 133 = .ok (.ireturn, 1) := by decide +kernel
theorem dX12_two_134 : decode cX12_two 134 = .ok (.iload_n 1, 1) := by decide +kernel
theorem dX12_two_135 : decode cX12_two 135 = .ok (.iload_n 2, 1) := by decide +kernel
theorem dX12_two_136 : decode cX12_two 136 = .ok (.if_icmp .le 7, 3) := by decide +kernel
theorem dX12_two_139 : decode cX12_two 139 = .ok (.iconst 1, 1) := by decide +kernel
theorem dX12_two_140 : decode cX12_two 140 = .ok (.goto 4, 3) := by decide +kernel
theorem dX12_two_143 : decode cX12_two 143 = .ok (.iconst 0, 1) := by decide +kernel
theorem dX12_two_144 : decode cX12_two 144 = .ok (.ireturn, 1) := by decide +kernel
theorem dX12_two_145 : decode cX12_two 145 = .ok (.iload_n 1, 1) := by decide +kernel
theorem dX12_two_146 : decode cX12_two 146 = .ok (.iload_n 2, 1) := by decide +kernel
theorem dX12_two_147 : decode cX12_two 147 = .ok (.iadd, 1) := by decide +kernel
theorem dX12_two_148 : decode cX12_two 148 = .ok (.ireturn, 1) := by decide +kernel
theorem dX12_two_149 : decode cX12_two 149 = .ok (.iload_n 1, 1) := by decide +kernel
theorem dX12_two_150 : decode cX12_two 150 = .ok (.iload_n 2, 1) := by decide +kernel
theorem dX12_two_151 : decode cX12_two 151 = .ok (.isub, 1) := by decide +kernel
theorem dX12_two_152 : decode cX12_two 152 = .ok (.ireturn, 1) := by decide +kernel
theorem dX12_two_153 : decode cX12_two 153 = .ok (.iload_n 1, 1) := by decide +kernel
theorem dX12_two_154 : decode cX12_two 154 = .ok (.iload_n 2, 1) := by decide +kernel
theorem dX12_two_155 : decode cX12_two 155 = .ok (.imul, 1) := by decide +kernel
theorem dX12_two_156 : decode cX12_two 156 = .ok (.ireturn, 1) := by decide +kernel
theorem dX12_two_157 : decode cX12_two 157 = .ok (.iload_n 2, 1) := by decide +kernel
theorem dX12_two_158 : decode cX12_two 158 = .ok (.ifCond .ne 7, 3) := by decide +kernel
theorem dX12_two_161 : decode cX12_two 161 = .ok (.iconst 0, 1) := by decide +kernel
theorem dX12_two_162 : decode cX12_two 162 = .ok (.goto 6, 3) := by decide +kernel
theorem dX12_two_165 : decode cX12_two 165 = .ok (.iload_n 1, 1) := by decide +kernel
theorem dX12_two_166 : decode cX12_two 166 = .ok (.iload_n 2, 1) := by decide +kernel
theorem dX12_two_167 : decode cX12_two 167 = .ok (.idiv, 1) := by decide +kernel
theorem dX12_two_168 : decode cX12_two 168 = .ok (.ireturn, 1) := by decide +kernel
theorem dX12_two_169 : decode cX12_two 169 = .ok (.iload_n 2, 1) := by decide +kernel
theorem dX12_two_170 : decode cX12_two 170 = .ok (.ifCond .ne 7, 3) := by decide +kernel
theorem dX12_two_173 : decode cX12_two 173 = .ok (.iconst 0, 1) := by decide +kernel
theorem dX12_two_174 : decode cX12_two 174 = .ok (.goto 6, 3) := by decide +kernel
theorem dX12_two_177 : decode cX12_two 177 = .ok (.iload_n 1, 1) := by decide +kernel
theorem dX12_two_178 : decode cX12_two 178 = .ok (.iload_n 2, 1) := by decide +kernel
theorem dX12_two_179 : decode cX12_two 179 = .ok (.irem, 1) := by decide +kernel
theorem dX12_two_180 : decode cX12_two 180 = .ok (.ireturn, 1) := by decide +kernel
theorem dX12_lesserForms_0 : decode cX12_lesserForms 0 = .ok (.iconst 0, 1) := by decide +kernel
theorem dX12_lesserForms_1 : decode cX12_lesserForms 1 = .ok (.istore_n 3, 1) := by decide +kernel
theorem dX12_lesserForms_2 : decode cX12_lesserForms 2 = .ok (.iconst 0, 1) := by decide +kernel
theorem dX12_lesserForms_3 : decode cX12_lesserForms 3 = .ok (.istore 4, 2) := by decide +kernel
theorem dX12_lesserForms_5 : decode cX12_lesserForms 5 = .ok (.iload 4, 2) := by decide +kernel
theorem dX12_lesserForms_7 : decode cX12_lesserForms 7 = .ok (.aload_n 0, 1) := by decide +kernel
theorem dX12_lesserForms_8 : decode cX12_lesserForms 8 = .ok (.getfield 122, 3) := by decide +kernel
theorem dX12_lesserForms_11 : decode cX12_lesserForms 11 = .ok (.if_icmp .ge 33, 3) := by decide +kernel
theorem dX12_lesserForms_14 : decode cX12_lesserForms 14 = .ok (.iload_n 3, 1) := by decide +kernel
theorem dX12_lesserForms_15 : decode cX12_lesserForms 15 = .ok (.aload_n 0, 1) := by decide +kernel
theorem dX12_lesserForms_16 : decode cX12_lesserForms 16 = .ok (.iload 4, 2) := by decide +kernel
theorem dX12_lesserForms_18 : decode cX12_lesserForms 18 = .ok (.iload_n 2, 1) := by decide +kernel
theorem dX12_lesserForms_19 : decode cX12_lesserForms 19 = .ok (.invokevirtual 235, 3) := by decide +kernel
theorem dX12_lesserForms_22 : decode cX12_lesserForms 22 = .ok (.aload_n 0, 1) := by decide +kernel
theorem dX12_lesserForms_23 : decode cX12_lesserForms 23 = .ok (.iload_n 1, 1) := by decide +kernel
theorem dX12_lesserForms_24 : decode cX12_lesserForms 24 = .ok (.iload_n 2, 1) := by decide +kernel
theorem dX12_lesserForms_25 : decode cX12_lesserForms 25 = .ok (.invokevirtual 235, 3) := by decide +kernel
theorem dX12_lesserForms_28 : decode cX12_lesserForms 28 = .ok (.if_icmp .ge 7, 3) := by decide +kernel
theorem dX12_lesserForms_31 : decode cX12_lesserForms 31 = .ok (.iconst 1, 1) := by decide +kernel
theorem dX12_lesserForms_32 : decode cX12_lesserForms 32 = .ok (.goto 4, 3) := by decide +kernel
theorem dX12_lesserForms_35 : decode cX12_lesserForms 35 = .ok (.iconst 0, 1) := by decide +kernel
theorem dX12_lesserForms_36 : decode cX12_lesserForms 36 = .ok (.iadd, 1) := by decide +kernel
theorem dX12_lesserForms_37 : decode cX12_lesserForms 37 = .ok (.istore_n 3, 1) := by decide +kernel
theorem dX12_lesserForms_38 : decode cX12_lesserForms 38 = .ok (.iinc 4 1, 3) := by decide +kernel
theorem dX12_lesserForms_41 : decode cX12_lesserForms 41 = .ok (.goto (-36), 3) := by decide +kernel
theorem dX12_lesserForms_44 : decode cX12_lesserForms 44 = .ok (.iload_n 3, 1) := by decide +kernel
theorem dX12_lesserForms_45 : decode cX12_lesserForms 45 = .ok (.ireturn, 1) := by decide +kernel
theorem dX12_named_0 : decode cX12_named 0 = .ok (.iload_n 1, 1) := by decide +kernel
theorem dX12_named_1 : decode cX12_named 1 = .ok (.tableswitch 149 102 121 #[95, 133, 149, 149, 149, 141, 149, 149, 128, 149, 121, 149, 149, 112, 105, 149, 149, 149, 149, 119], 95) := by decide +kernel
theorem dX12_named_96 : decode cX12_named 96 = .ok (.aload_n 0, 1) := by decide +kernel
theorem dX12_named_97 : decode cX12_named 97 = .ok (.iload_n 2, 1) := by decide +kernel
theorem dX12_named_98 : decode cX12_named 98 = .ok (.iload_n 3, 1) := by decide +kernel
theorem dX12_named_99 : decode cX12_named 99 = .ok (.invokevirtual 235, 3) := by decide +kernel
theorem dX12_named_102 : decode cX12_named 102 = .ok (.bipush 10, 2) := by decide +kernel
theorem dX12_named_104 : decode cX12_named 104 = .ok (.idiv, 1) := by decide +kernel
theorem dX12_named_105 : decode cX12_named 105 = .ok (.ireturn, 1) := by decide +kernel
theorem dX12_named_106 : decode cX12_named 106 = .ok (.aload_n 0, 1) := by decide +kernel
theorem dX12_named_107 : decode cX12_named 107 = .ok (.getfield 16, 3) := by decide +kernel
theorem dX12_named_110 : decode cX12_named 110 = .ok (.iload_n 2, 1) := by decide +kernel
theorem dX12_named_111 : decode cX12_named 111 = .ok (.iaload, 1) := by decide +kernel
theorem dX12_named_112 : decode cX12_named 112 = .ok (.ireturn, 1) := by decide +kernel
theorem dX12_named_113 : decode cX12_named 113 = .ok (.aload_n 0, 1) := by decide +kernel
theorem dX12_named_114 : decode cX12_named 114 = .ok (.getfield 19, 3) := by decide +kernel
theorem dX12_named_117 : decode cX12_named 117 = .ok (.iload_n 2, 1) := by decide +kernel
theorem dX12_named_118 : decode cX12_named 118 = .ok (.iaload, 1) := by decide +kernel
theorem dX12_named_119 : decode cX12_named 119 = .ok (.ireturn, 1) := by decide +kernel
theorem dX12_named_120 : decode cX12_named 120 = .ok (.iload_n 3, 1) := by decide +kernel
theorem dX12_named_121 : decode cX12_named 121 = .ok (.ireturn, 1) := by decide +kernel
theorem dX12_named_122 : decode cX12_named 122 = .ok (.aload_n 0, 1) := by decide +kernel
theorem dX12_named_123 : decode cX12_named 123 = .ok (.iload_n 2, 1) := by decide +kernel
theorem dX12_named_124 : decode cX12_named 124 = .ok (.iload_n 3, 1) := by decide +kernel
theorem dX12_named_125 : decode cX12_named 125 = .ok (.invokevirtual 238, 3) := by decide +kernel
theorem dX12_named_128 : decode cX12_named 128 = .ok (.ireturn, 1) := by decide +kernel
theorem dX12_named_129 : decode cX12_named 129 = .ok (.aload_n 0, 1) := by decide +kernel
theorem dX12_named_130 : decode cX12_named 130 = .ok (.getfield 122, 3) := by decide +kernel
theorem dX12_named_133 : decode cX12_named 133 = .ok (.ireturn, 1) := by decide +kernel
theorem dX12_named_134 : decode cX12_named 134 = .ok (.aload_n 0, 1) := by decide +kernel
theorem dX12_named_135 : decode cX12_named 135 = .ok (.getfield 25, 3) := by decide +kernel
theorem dX12_named_138 : decode cX12_named 138 = .ok (.iload 4, 2) := by decide +kernel
theorem dX12_named_140 : decode cX12_named 140 = .ok (.iaload, 1) := by decide +kernel
theorem dX12_named_141 : decode cX12_named 141 = .ok (.ireturn, 1) := by decide +kernel
theorem dX12_named_142 : decode cX12_named 142 = .ok (.aload_n 0, 1) := by decide +kernel
theorem dX12_named_143 : decode cX12_named 143 = .ok (.getfield 22, 3) := by decide +kernel
theorem dX12_named_146 : decode cX12_named 146 = .ok (.iload 4, 2) := by decide +kernel
theorem dX12_named_148 : decode cX12_named 148 = .ok (.iaload, 1) := by decide +kernel
theorem dX12_named_149 : decode cX12_named 149 = .ok (.ireturn, 1) := by decide +kernel
theorem dX12_named_150 : decode cX12_named 150 = .ok (.iload 5, 2) := by decide +kernel
theorem dX12_named_152 : decode cX12_named 152 = .ok (.ireturn, 1) := by decide +kernel
theorem dX12_workedOut_0 : decode cX12_workedOut 0 = .ok (.aload_n 0, 1) := by decide +kernel
theorem dX12_workedOut_1 : decode cX12_workedOut 1 = .ok (.iconst 0, 1) := by decide +kernel
theorem dX12_workedOut_2 : decode cX12_workedOut 2 = .ok (.putfield 241, 3) := by decide +kernel
theorem dX12_workedOut_5 : decode cX12_workedOut 5 = .ok (.iconst 1, 1) := by decide +kernel
theorem dX12_workedOut_6 : decode cX12_workedOut 6 = .ok (.istore 6, 2) := by decide +kernel
theorem dX12_workedOut_8 : decode cX12_workedOut 8 = .ok (.aload_n 0, 1) := by decide +kernel
theorem dX12_workedOut_9 : decode cX12_workedOut 9 = .ok (.getfield 71, 3) := by decide +kernel
theorem dX12_workedOut_12 : decode cX12_workedOut 12 = .ok (.iload_n 1, 1) := by decide +kernel
theorem dX12_workedOut_13 : decode cX12_workedOut 13 = .ok (.iaload, 1) := by decide +kernel
theorem dX12_workedOut_14 : decode cX12_workedOut 14 = .ok (.istore 7, 2) := by decide +kernel
theorem dX12_workedOut_16 : decode cX12_workedOut 16 = .ok (.iload 7, 2) := by decide +kernel
theorem dX12_workedOut_18 : decode cX12_workedOut 18 = .ok (.aload_n 0, 1) := by decide +kernel
theorem dX12_workedOut_19 : decode cX12_workedOut 19 = .ok (.getfield 71, 3) := by decide +kernel
theorem dX12_workedOut_22 : decode cX12_workedOut 22 = .ok (.iload_n 1, 1) := by decide +kernel
theorem dX12_workedOut_23 : decode cX12_workedOut 23 = .ok (.iconst 1, 1) := by decide +kernel
theorem dX12_workedOut_24 : decode cX12_workedOut 24 = .ok (.iadd, 1) := by decide +kernel
theorem dX12_workedOut_25 : decode cX12_workedOut 25 = .ok (.iaload, 1) := by decide +kernel
theorem dX12_workedOut_26 : decode cX12_workedOut 26 = .ok (.if_icmp .ge 294, 3) := by decide +kernel
theorem dX12_workedOut_29 : decode cX12_workedOut 29 = .ok (.aload_n 0, 1) := by decide +kernel
theorem dX12_workedOut_30 : decode cX12_workedOut 30 = .ok (.getfield 68, 3) := by decide +kernel
theorem dX12_workedOut_33 : decode cX12_workedOut 33 = .ok (.iload 7, 2) := by decide +kernel
theorem dX12_workedOut_35 : decode cX12_workedOut 35 = .ok (.iaload, 1) := by decide +kernel
theorem dX12_workedOut_36 : decode cX12_workedOut 36 = .ok (.istore 8, 2) := by decide +kernel
theorem dX12_workedOut_38 : decode cX12_workedOut 38 = .ok (.iload 8, 2) := by decide +kernel
theorem dX12_workedOut_40 : decode cX12_workedOut 40 = .ok (.sipush 1000, 3) := by decide +kernel
theorem dX12_workedOut_43 : decode cX12_workedOut 43 = .ok (.if_icmp .lt 31, 3) := by decide +kernel
theorem dX12_workedOut_46 : decode cX12_workedOut 46 = .ok (.aload_n 0, 1) := by decide +kernel
theorem dX12_workedOut_47 : decode cX12_workedOut 47 = .ok (.getfield 80, 3) := by decide +kernel
theorem dX12_workedOut_50 : decode cX12_workedOut 50 = .ok (.aload_n 0, 1) := by decide +kernel
theorem dX12_workedOut_51 : decode cX12_workedOut 51 = .ok (.getfield 241, 3) := by decide +kernel
theorem dX12_workedOut_54 : decode cX12_workedOut 54 = .ok (.iload 8, 2) := by decide +kernel
theorem dX12_workedOut_56 : decode cX12_workedOut 56 = .ok (.sipush 1000, 3) := by decide +kernel
theorem dX12_workedOut_59 : decode cX12_workedOut 59 = .ok (.isub, 1) := by decide +kernel
theorem dX12_workedOut_60 : decode cX12_workedOut 60 = .ok (.iastore, 1) := by decide +kernel
theorem dX12_workedOut_61 : decode cX12_workedOut 61 = .ok (.aload_n 0, 1) := by decide +kernel
theorem dX12_workedOut_62 : decode cX12_workedOut 62 = .ok (.dup, 1) := by decide +kernel
theorem dX12_workedOut_63 : decode cX12_workedOut 63 = .ok (.getfield 241, 3) := by decide +kernel
theorem dX12_workedOut_66 : decode cX12_workedOut 66 = .ok (.iconst 1, 1) := by decide +kernel
theorem dX12_workedOut_67 : decode cX12_workedOut 67 = .ok (.iadd, 1) := by decide +kernel
theorem dX12_workedOut_68 : decode cX12_workedOut 68 = .ok (.putfield 241, 3) := by decide +kernel
theorem dX12_workedOut_71 : decode cX12_workedOut 71 = .ok (.goto 243, 3) := by decide +kernel
theorem dX12_workedOut_74 : decode cX12_workedOut 74 = .ok (.iload 8, 2) := by decide +kernel
theorem dX12_workedOut_76 : decode cX12_workedOut 76 = .ok (.sipush 900, 3) := by decide +kernel
theorem dX12_workedOut_79 : decode cX12_workedOut 79 = .ok (.if_icmp .ne 35, 3) := by decide +kernel
theorem dX12_workedOut_82 : decode cX12_workedOut 82 = .ok (.aload_n 0, 1) := by decide +kernel
theorem dX12_workedOut_83 : decode cX12_workedOut 83 = .ok (.dup, 1) := by decide +kernel
theorem dX12_workedOut_84 : decode cX12_workedOut 84 = .ok (.getfield 241, 3) := by decide +kernel
theorem dX12_workedOut_87 : decode cX12_workedOut 87 = .ok (.iconst 1, 1) := by decide +kernel
theorem dX12_workedOut_88 : decode cX12_workedOut 88 = .ok (.isub, 1) := by decide +kernel
theorem dX12_workedOut_89 : decode cX12_workedOut 89 = .ok (.putfield 241, 3) := by decide +kernel
theorem dX12_workedOut_92 : decode cX12_workedOut 92 = .ok (.aload_n 0, 1) := by decide +kernel
theorem dX12_workedOut_93 : decode cX12_workedOut 93 = .ok (.getfield 80, 3) := by decide +kernel
theorem dX12_workedOut_96 : decode cX12_workedOut 96 = .ok (.aload_n 0, 1) := by decide +kernel
theorem dX12_workedOut_97 : decode cX12_workedOut 97 = .ok (.getfield 241, 3) := by decide +kernel
theorem dX12_workedOut_100 : decode cX12_workedOut 100 = .ok (.iaload, 1) := by decide +kernel
theorem dX12_workedOut_101 : decode cX12_workedOut 101 = .ok (.ifCond .eq 7, 3) := by decide +kernel
theorem dX12_workedOut_104 : decode cX12_workedOut 104 = .ok (.iconst 1, 1) := by decide +kernel
theorem dX12_workedOut_105 : decode cX12_workedOut 105 = .ok (.goto 4, 3) := by decide +kernel
theorem dX12_workedOut_108 : decode cX12_workedOut 108 = .ok (.iconst 0, 1) := by decide +kernel
theorem dX12_workedOut_109 : decode cX12_workedOut 109 = .ok (.istore 6, 2) := by decide +kernel
theorem dX12_workedOut_111 : decode cX12_workedOut 111 = .ok (.goto 203, 3) := by decide +kernel
theorem dX12_workedOut_114 : decode cX12_workedOut 114 = .ok (.iload 8, 2) := by decide +kernel
theorem dX12_workedOut_116 : decode cX12_workedOut 116 = .ok (.sipush 901, 3) := by decide +kernel
theorem dX12_workedOut_119 : decode cX12_workedOut 119 = .ok (.if_icmp .ne 34, 3) := by decide +kernel
theorem dX12_workedOut_122 : decode cX12_workedOut 122 = .ok (.aload_n 0, 1) := by decide +kernel
theorem dX12_workedOut_123 : decode cX12_workedOut 123 = .ok (.dup, 1) := by decide +kernel
theorem dX12_workedOut_124 : decode cX12_workedOut 124 = .ok (.getfield 241, 3) := by decide +kernel
theorem dX12_workedOut_127 : decode cX12_workedOut 127 = .ok (.iconst 1, 1) := by decide +kernel
theorem dX12_workedOut_128 : decode cX12_workedOut 128 = .ok (.isub, 1) := by decide +kernel
theorem dX12_workedOut_129 : decode cX12_workedOut 129 = .ok (.putfield 241, 3) := by decide +kernel
theorem dX12_workedOut_132 : decode cX12_workedOut 132 = .ok (.iload 6, 2) := by decide +kernel
theorem dX12_workedOut_134 : decode cX12_workedOut 134 = .ok (.ifCond .eq 13, 3) := by decide +kernel
theorem dX12_workedOut_137 : decode cX12_workedOut 137 = .ok (.aload_n 0, 1) := by decide +kernel
theorem dX12_workedOut_138 : decode cX12_workedOut 138 = .ok (.getfield 80, 3) := by decide +kernel
theorem dX12_workedOut_141 : decode cX12_workedOut 141 = .ok (.aload_n 0, 1) := by decide +kernel
theorem dX12_workedOut_142 : decode cX12_workedOut 142 = .ok (.getfield 241, 3) := by decide +kernel
theorem dX12_workedOut_145 : decode cX12_workedOut 145 = .ok (.iaload, 1) := by decide +kernel
theorem dX12_workedOut_146 : decode cX12_workedOut 146 = .ok (.ireturn, 1) := by decide +kernel
theorem dX12_workedOut_147 : decode cX12_workedOut 147 = .ok (.iconst 1, 1) := by decide +kernel
theorem dX12_workedOut_148 : decode cX12_workedOut 148 = .ok (.istore 6, 2) := by decide +kernel
theorem dX12_workedOut_150 : decode cX12_workedOut 150 = .ok (.goto 164, 3) := by decide +kernel
theorem dX12_workedOut_153 : decode cX12_workedOut 153 = .ok (.iload 8, 2) := by decide +kernel
theorem dX12_workedOut_155 : decode cX12_workedOut 155 = .ok (.bipush 33, 2) := by decide +kernel
theorem dX12_workedOut_157 : decode cX12_workedOut 157 = .ok (.if_icmp .ne 36, 3) := by decide +kernel
theorem dX12_workedOut_160 : decode cX12_workedOut 160 = .ok (.aload_n 0, 1) := by decide +kernel
theorem dX12_workedOut_161 : decode cX12_workedOut 161 = .ok (.getfield 80, 3) := by decide +kernel
theorem dX12_workedOut_164 : decode cX12_workedOut 164 = .ok (.aload_n 0, 1) := by decide +kernel
theorem dX12_workedOut_165 : decode cX12_workedOut 165 = .ok (.getfield 241, 3) := by decide +kernel
theorem dX12_workedOut_168 : decode cX12_workedOut 168 = .ok (.iconst 1, 1) := by decide +kernel
theorem dX12_workedOut_169 : decode cX12_workedOut 169 = .ok (.isub, 1) := by decide +kernel
theorem dX12_workedOut_170 : decode cX12_workedOut 170 = .ok (.aload_n 0, 1) := by decide +kernel
theorem dX12_workedOut_171 : decode cX12_workedOut 171 = .ok (.getfield 80, 3) := by decide +kernel
theorem dX12_workedOut_174 : decode cX12_workedOut 174 = .ok (.aload_n 0, 1) := by decide +kernel
theorem dX12_workedOut_175 : decode cX12_workedOut 175 = .ok (.getfield 241, 3) := by decide +kernel
theorem dX12_workedOut_178 : decode cX12_workedOut 178 = .ok (.iconst 1, 1) := by decide +kernel
theorem dX12_workedOut_179 : decode cX12_workedOut 179 = .ok (.isub, 1) := by decide +kernel
theorem dX12_workedOut_180 : decode cX12_workedOut 180 = .ok (.iaload, 1) := by decide +kernel
theorem dX12_workedOut_181 : decode cX12_workedOut 181 = .ok (.ifCond .ne 7, 3) := by decide +kernel
theorem dX12_workedOut_184 : decode cX12_workedOut 184 = .ok (.iconst 1, 1) := by decide +kernel
theorem dX12_workedOut_185 : decode cX12_workedOut 185 = .ok (.goto 4, 3) := by decide +kernel
theorem dX12_workedOut_188 : decode cX12_workedOut 188 = .ok (.iconst 0, 1) := by decide +kernel
theorem dX12_workedOut_189 : decode cX12_workedOut 189 = .ok (.iastore, 1) := by decide +kernel
theorem dX12_workedOut_190 : decode cX12_workedOut 190 = .ok (.goto 124, 3) := by decide +kernel
theorem dX12_workedOut_193 : decode cX12_workedOut 193 = .ok (.iload 8, 2) := by decide +kernel
theorem dX12_workedOut_195 : decode cX12_workedOut 195 = .ok (.bipush 95, 2) := by decide +kernel
theorem dX12_workedOut_197 : decode cX12_workedOut 197 = .ok (.if_icmp .ne 29, 3) := by decide +kernel
theorem dX12_workedOut_200 : decode cX12_workedOut 200 = .ok (.aload_n 0, 1) := by decide +kernel
theorem dX12_workedOut_201 : decode cX12_workedOut 201 = .ok (.getfield 80, 3) := by decide +kernel
theorem dX12_workedOut_204 : decode cX12_workedOut 204 = .ok (.aload_n 0, 1) := by decide +kernel
theorem dX12_workedOut_205 : decode cX12_workedOut 205 = .ok (.getfield 241, 3) := by decide +kernel
theorem dX12_workedOut_208 : decode cX12_workedOut 208 = .ok (.iconst 1, 1) := by decide +kernel
theorem dX12_workedOut_209 : decode cX12_workedOut 209 = .ok (.isub, 1) := by decide +kernel
theorem dX12_workedOut_210 : decode cX12_workedOut 210 = .ok (.aload_n 0, 1) := by decide +kernel
theorem dX12_workedOut_211 : decode cX12_workedOut 211 = .ok (.getfield 80, 3) := by decide +kernel
theorem dX12_workedOut_214 : decode cX12_workedOut 214 = .ok (.aload_n 0, 1) := by decide +kernel
theorem dX12_workedOut_215 : decode cX12_workedOut 215 = .ok (.getfield 241, 3) := by decide +kernel
theorem dX12_workedOut_218 : decode cX12_workedOut 218 = .ok (.iconst 1, 1) := by decide +kernel
theorem dX12_workedOut_219 : decode cX12_workedOut 219 = .ok (.isub, 1) := by decide +kernel
theorem dX12_workedOut_220 : decode cX12_workedOut 220 = .ok (.iaload, 1) := by decide +kernel
theorem dX12_workedOut_221 : decode cX12_workedOut 221 = .ok (.ineg, 1) := by decide +kernel
theorem dX12_workedOut_222 : decode cX12_workedOut 222 = .ok (.iastore, 1) := by decide +kernel
theorem dX12_workedOut_223 : decode cX12_workedOut 223 = .ok (.goto 91, 3) := by decide +kernel
theorem dX12_workedOut_226 : decode cX12_workedOut 226 = .ok (.iload 8, 2) := by decide +kernel
theorem dX12_workedOut_228 : decode cX12_workedOut 228 = .ok (.invokestatic 206, 3) := by decide +kernel
theorem dX12_workedOut_231 : decode cX12_workedOut 231 = .ok (.ifCond .eq 37, 3) := by decide +kernel
theorem dX12_workedOut_234 : decode cX12_workedOut 234 = .ok (.aload_n 0, 1) := by decide +kernel
theorem dX12_workedOut_235 : decode cX12_workedOut 235 = .ok (.getfield 80, 3) := by decide +kernel
theorem dX12_workedOut_238 : decode cX12_workedOut 238 = .ok (.aload_n 0, 1) := by decide +kernel
theorem dX12_workedOut_239 : decode cX12_workedOut 239 = .ok (.getfield 241, 3) := by decide +kernel
theorem dX12_workedOut_242 : decode cX12_workedOut 242 = .ok (.aload_n 0, 1) := by decide +kernel
theorem dX12_workedOut_243 : decode cX12_workedOut 243 = .ok (.iload 8, 2) := by decide +kernel
theorem dX12_workedOut_245 : decode cX12_workedOut 245 = .ok (.iload_n 2, 1) := by decide +kernel
theorem dX12_workedOut_246 : decode cX12_workedOut 246 = .ok (.iload_n 3, 1) := by decide +kernel
theorem dX12_workedOut_247 : decode cX12_workedOut 247 = .ok (.iload 4, 2) := by decide +kernel
theorem dX12_workedOut_249 : decode cX12_workedOut 249 = .ok (.iload 5, 2) := by decide +kernel
theorem dX12_workedOut_251 : decode cX12_workedOut 251 = .ok (.invokevirtual 244, 3) := by decide +kernel
theorem dX12_workedOut_254 : decode cX12_workedOut 254 = .ok (.iastore, 1) := by decide +kernel
theorem dX12_workedOut_255 : decode cX12_workedOut 255 = .ok (.aload_n 0, 1) := by decide +kernel
theorem dX12_workedOut_256 : decode cX12_workedOut 256 = .ok (.dup, 1) := by decide +kernel
theorem dX12_workedOut_257 : decode cX12_workedOut 257 = .ok (.getfield 241, 3) := by decide +kernel
theorem dX12_workedOut_260 : decode cX12_workedOut 260 = .ok (.iconst 1, 1) := by decide +kernel
theorem dX12_workedOut_261 : decode cX12_workedOut 261 = .ok (.iadd, 1) := by decide +kernel
theorem dX12_workedOut_262 : decode cX12_workedOut 262 = .ok (.putfield 241, 3) := by decide +kernel
theorem dX12_workedOut_265 : decode cX12_workedOut 265 = .ok (.goto 49, 3) := by decide +kernel
theorem dX12_workedOut_268 : decode cX12_workedOut 268 = .ok (.aload_n 0, 1) := by decide +kernel
theorem dX12_workedOut_269 : decode cX12_workedOut 269 = .ok (.dup, 1) := by decide +kernel
theorem dX12_workedOut_270 : decode cX12_workedOut 270 = .ok (.getfield 241, 3) := by decide +kernel
theorem dX12_workedOut_273 : decode cX12_workedOut 273 = .ok (.iconst 1, 1) := by decide +kernel
theorem dX12_workedOut_274 : decode cX12_workedOut 274 = .ok (.isub, 1) := by decide +kernel
theorem dX12_workedOut_275 : decode cX12_workedOut 275 = .ok (.putfield 241, 3) := by decide +kernel
theorem dX12_workedOut_278 : decode cX12_workedOut 278 = .ok (.aload_n 0, 1) := by decide +kernel
theorem dX12_workedOut_279 : decode cX12_workedOut 279 = .ok (.getfield 80, 3) := by decide +kernel
theorem dX12_workedOut_282 : decode cX12_workedOut 282 = .ok (.aload_n 0, 1) := by decide +kernel
theorem dX12_workedOut_283 : decode cX12_workedOut 283 = .ok (.getfield 241, 3) := by decide +kernel
theorem dX12_workedOut_286 : decode cX12_workedOut 286 = .ok (.iconst 1, 1) := by decide +kernel
theorem dX12_workedOut_287 : decode cX12_workedOut 287 = .ok (.isub, 1) := by decide +kernel
theorem dX12_workedOut_288 : decode cX12_workedOut 288 = .ok (.iload 8, 2) := by decide +kernel
theorem dX12_workedOut_290 : decode cX12_workedOut 290 = .ok (.aload_n 0, 1) := by decide +kernel
theorem dX12_workedOut_291 : decode cX12_workedOut 291 = .ok (.getfield 80, 3) := by decide +kernel
theorem dX12_workedOut_294 : decode cX12_workedOut 294 = .ok (.aload_n 0, 1) := by decide +kernel
theorem dX12_workedOut_295 : decode cX12_workedOut 295 = .ok (.getfield 241, 3) := by decide +kernel
theorem dX12_workedOut_298 : decode cX12_workedOut 298 = .ok (.iconst 1, 1) := by decide +kernel
theorem dX12_workedOut_299 : decode cX12_workedOut 299 = .ok (.isub, 1) := by decide +kernel
theorem dX12_workedOut_300 : decode cX12_workedOut 300 = .ok (.iaload, 1) := by decide +kernel
theorem dX12_workedOut_301 : decode cX12_workedOut 301 = .ok (.aload_n 0, 1) := by decide +kernel
theorem dX12_workedOut_302 : decode cX12_workedOut 302 = .ok (.getfield 80, 3) := by decide +kernel
theorem dX12_workedOut_305 : decode cX12_workedOut 305 = .ok (.aload_n 0, 1) := by decide +kernel
theorem dX12_workedOut_306 : decode cX12_workedOut 306 = .ok (.getfield 241, 3) := by decide +kernel
theorem dX12_workedOut_309 : decode cX12_workedOut 309 = .ok (.iaload, 1) := by decide +kernel
theorem dX12_workedOut_310 : decode cX12_workedOut 310 = .ok (.invokestatic 248, 3) := by decide +kernel
theorem dX12_workedOut_313 : decode cX12_workedOut 313 = .ok (.iastore, 1) := by decide +kernel
theorem dX12_workedOut_314 : decode cX12_workedOut 314 = .ok (.iinc 7 1, 3) := by decide +kernel
theorem dX12_workedOut_317 : decode cX12_workedOut 317 = .ok (.goto (-301), 3) := by decide +kernel
theorem dX12_workedOut_320 : decode cX12_workedOut 320 = .ok (.iconst 0, 1) := by decide +kernel
theorem dX12_workedOut_321 : decode cX12_workedOut 321 = .ok (.ireturn, 1) := by decide +kernel
theorem dX12_eyes_0 : decode cX12_eyes 0 = .ok (.iload_n 1, 1) := by decide +kernel
theorem dX12_eyes_1 : decode cX12_eyes 1 = .ok (.iconst 0, 1) := by decide +kernel
theorem dX12_eyes_2 : decode cX12_eyes 2 = .ok (.bipush 100, 2) := by decide +kernel
theorem dX12_eyes_4 : decode cX12_eyes 4 = .ok (.invokestatic 117, 3) := by decide +kernel
theorem dX12_eyes_7 : decode cX12_eyes 7 = .ok (.ifCond .ne 5, 3) := by decide +kernel
theorem dX12_eyes_10 : decode cX12_eyes 10 = .ok (.iconst (-1), 1) := by decide +kernel
theorem dX12_eyes_11 : decode cX12_eyes 11 = .ok (.ireturn, 1) := by decide +kernel
theorem dX12_eyes_12 : decode cX12_eyes 12 = .ok (.aload_n 0, 1) := by decide +kernel
theorem dX12_eyes_13 : decode cX12_eyes 13 = .ok (.getfield 49, 3) := by decide +kernel
theorem dX12_eyes_16 : decode cX12_eyes 16 = .ok (.istore_n 2, 1) := by decide +kernel
theorem dX12_eyes_17 : decode cX12_eyes 17 = .ok (.aload_n 0, 1) := by decide +kernel
theorem dX12_eyes_18 : decode cX12_eyes 18 = .ok (.iload_n 1, 1) := by decide +kernel
theorem dX12_eyes_19 : decode cX12_eyes 19 = .ok (.putfield 49, 3) := by decide +kernel
theorem dX12_eyes_22 : decode cX12_eyes 22 = .ok (.iload_n 2, 1) := by decide +kernel
theorem dX12_eyes_23 : decode cX12_eyes 23 = .ok (.ireturn, 1) := by decide +kernel
theorem dX12_race_0 : decode cX12_race 0 = .ok (.iload_n 1, 1) := by decide +kernel
theorem dX12_race_1 : decode cX12_race 1 = .ok (.ifCond .lt 76, 3) := by decide +kernel
theorem dX12_race_4 : decode cX12_race 4 = .ok (.iload_n 2, 1) := by decide +kernel
theorem dX12_race_5 : decode cX12_race 5 = .ok (.ifCond .lt 72, 3) := by decide +kernel
theorem dX12_race_8 : decode cX12_race 8 = .ok (.iload_n 1, 1) := by decide +kernel
theorem dX12_race_9 : decode cX12_race 9 = .ok (.bipush 10, 2) := by decide +kernel
theorem dX12_race_11 : decode cX12_race 11 = .ok (.idiv, 1) := by decide +kernel
theorem dX12_race_12 : decode cX12_race 12 = .ok (.aload_n 0, 1) := by decide +kernel
theorem dX12_race_13 : decode cX12_race 13 = .ok (.getfield 223, 3) := by decide +kernel
theorem dX12_race_16 : decode cX12_race 16 = .ok (.if_icmp .ge 61, 3) := by decide +kernel
theorem dX12_race_19 : decode cX12_race 19 = .ok (.aload_n 0, 1) := by decide +kernel
theorem dX12_race_20 : decode cX12_race 20 = .ok (.iload_n 1, 1) := by decide +kernel
theorem dX12_race_21 : decode cX12_race 21 = .ok (.bipush 10, 2) := by decide +kernel
theorem dX12_race_23 : decode cX12_race 23 = .ok (.irem, 1) := by decide +kernel
theorem dX12_race_24 : decode cX12_race 24 = .ok (.invokevirtual 135, 3) := by decide +kernel
theorem dX12_race_27 : decode cX12_race 27 = .ok (.ifCond .eq 50, 3) := by decide +kernel
theorem dX12_race_30 : decode cX12_race 30 = .ok (.iload_n 2, 1) := by decide +kernel
theorem dX12_race_31 : decode cX12_race 31 = .ok (.bipush 10, 2) := by decide +kernel
theorem dX12_race_33 : decode cX12_race 33 = .ok (.idiv, 1) := by decide +kernel
theorem dX12_race_34 : decode cX12_race 34 = .ok (.bipush 99, 2) := by decide +kernel
theorem dX12_race_36 : decode cX12_race 36 = .ok (.if_icmp .gt 41, 3) := by decide +kernel
theorem dX12_race_39 : decode cX12_race 39 = .ok (.aload_n 0, 1) := by decide +kernel
theorem dX12_race_40 : decode cX12_race 40 = .ok (.iload_n 2, 1) := by decide +kernel
theorem dX12_race_41 : decode cX12_race 41 = .ok (.bipush 10, 2) := by decide +kernel
theorem dX12_race_43 : decode cX12_race 43 = .ok (.irem, 1) := by decide +kernel
theorem dX12_race_44 : decode cX12_race 44 = .ok (.invokevirtual 138, 3) := by decide +kernel
theorem dX12_race_47 : decode cX12_race 47 = .ok (.ifCond .eq 30, 3) := by decide +kernel
theorem dX12_race_50 : decode cX12_race 50 = .ok (.aload_n 0, 1) := by decide +kernel
theorem dX12_race_51 : decode cX12_race 51 = .ok (.getfield 28, 3) := by decide +kernel
theorem dX12_race_54 : decode cX12_race 54 = .ok (.iload_n 2, 1) := by decide +kernel
theorem dX12_race_55 : decode cX12_race 55 = .ok (.bipush 10, 2) := by decide +kernel
theorem dX12_race_57 : decode cX12_race 57 = .ok (.irem, 1) := by decide +kernel
theorem dX12_race_58 : decode cX12_race 58 = .ok (.iaload, 1) := by decide +kernel
theorem dX12_race_59 : decode cX12_race 59 = .ok (.iload_n 2, 1) := by decide +kernel
theorem dX12_race_60 : decode cX12_race 60 = .ok (.bipush 10, 2) := by decide +kernel
theorem dX12_race_62 : decode cX12_race 62 = .ok (.idiv, 1) := by decide +kernel
theorem dX12_race_63 : decode cX12_race 63 = .ok (.if_icmp .gt 14, 3) := by decide +kernel
theorem dX12_race_66 : decode cX12_race 66 = .ok (.iload_n 3, 1) := by decide +kernel
theorem dX12_race_67 : decode cX12_race 67 = .ok (.bipush (-50), 2) := by decide +kernel
theorem dX12_race_69 : decode cX12_race 69 = .ok (.bipush 50, 2) := by decide +kernel
theorem dX12_race_71 : decode cX12_race 71 = .ok (.invokestatic 117, 3) := by decide +kernel
theorem dX12_race_74 : decode cX12_race 74 = .ok (.ifCond .ne 5, 3) := by decide +kernel
theorem dX12_race_77 : decode cX12_race 77 = .ok (.iconst (-1), 1) := by decide +kernel
theorem dX12_race_78 : decode cX12_race 78 = .ok (.ireturn, 1) := by decide +kernel
theorem dX12_race_79 : decode cX12_race 79 = .ok (.aload_n 0, 1) := by decide +kernel
theorem dX12_race_80 : decode cX12_race 80 = .ok (.getfield 128, 3) := by decide +kernel
theorem dX12_race_83 : decode cX12_race 83 = .ok (.aload_n 0, 1) := by decide +kernel
theorem dX12_race_84 : decode cX12_race 84 = .ok (.getfield 122, 3) := by decide +kernel
theorem dX12_race_87 : decode cX12_race 87 = .ok (.iadd, 1) := by decide +kernel
theorem dX12_race_88 : decode cX12_race 88 = .ok (.bipush 120, 2) := by decide +kernel
theorem dX12_race_90 : decode cX12_race 90 = .ok (.if_icmp .le 6, 3) := by decide +kernel
theorem dX12_race_93 : decode cX12_race 93 = .ok (.bipush (-5), 2) := by decide +kernel
theorem dX12_race_95 : decode cX12_race 95 = .ok (.ireturn, 1) := by decide +kernel
theorem dX12_race_96 : decode cX12_race 96 = .ok (.iload_n 2, 1) := by decide +kernel
theorem dX12_race_97 : decode cX12_race 97 = .ok (.bipush 10, 2) := by decide +kernel
theorem dX12_race_99 : decode cX12_race 99 = .ok (.idiv, 1) := by decide +kernel
theorem dX12_race_100 : decode cX12_race 100 = .ok (.istore 5, 2) := by decide +kernel
theorem dX12_race_102 : decode cX12_race 102 = .ok (.iload 4, 2) := by decide +kernel
theorem dX12_race_104 : decode cX12_race 104 = .ok (.istore 6, 2) := by decide +kernel
theorem dX12_race_106 : decode cX12_race 106 = .ok (.iconst 0, 1) := by decide +kernel
theorem dX12_race_107 : decode cX12_race 107 = .ok (.istore 7, 2) := by decide +kernel
theorem dX12_race_109 : decode cX12_race 109 = .ok (.iload 7, 2) := by decide +kernel
theorem dX12_race_111 : decode cX12_race 111 = .ok (.aload_n 0, 1) := by decide +kernel
theorem dX12_race_112 : decode cX12_race 112 = .ok (.getfield 122, 3) := by decide +kernel
theorem dX12_race_115 : decode cX12_race 115 = .ok (.if_icmp .ge 202, 3) := by decide +kernel
theorem dX12_race_118 : decode cX12_race 118 = .ok (.iload 6, 2) := by decide +kernel
theorem dX12_race_120 : decode cX12_race 120 = .ok (.ldc 252, 2) := by decide +kernel
theorem dX12_race_122 : decode cX12_race 122 = .ok (.imul, 1) := by decide +kernel
theorem dX12_race_123 : decode cX12_race 123 = .ok (.sipush 12345, 3) := by decide +kernel
theorem dX12_race_126 : decode cX12_race 126 = .ok (.iadd, 1) := by decide +kernel
theorem dX12_race_127 : decode cX12_race 127 = .ok (.istore 6, 2) := by decide +kernel
theorem dX12_race_129 : decode cX12_race 129 = .ok (.aload_n 0, 1) := by decide +kernel
theorem dX12_race_130 : decode cX12_race 130 = .ok (.iload_n 1, 1) := by decide +kernel
theorem dX12_race_131 : decode cX12_race 131 = .ok (.bipush 10, 2) := by decide +kernel
theorem dX12_race_133 : decode cX12_race 133 = .ok (.idiv, 1) := by decide +kernel
theorem dX12_race_134 : decode cX12_race 134 = .ok (.iload 7, 2) := by decide +kernel
theorem dX12_race_136 : decode cX12_race 136 = .ok (.iload 5, 2) := by decide +kernel
theorem dX12_race_138 : decode cX12_race 138 = .ok (.iload_n 2, 1) := by decide +kernel
theorem dX12_race_139 : decode cX12_race 139 = .ok (.bipush 10, 2) := by decide +kernel
theorem dX12_race_141 : decode cX12_race 141 = .ok (.irem, 1) := by decide +kernel
theorem dX12_race_142 : decode cX12_race 142 = .ok (.iload 6, 2) := by decide +kernel
theorem dX12_race_144 : decode cX12_race 144 = .ok (.bipush 8, 2) := by decide +kernel
theorem dX12_race_146 : decode cX12_race 146 = .ok (.iushr, 1) := by decide +kernel
theorem dX12_race_147 : decode cX12_race 147 = .ok (.bipush 100, 2) := by decide +kernel
theorem dX12_race_149 : decode cX12_race 149 = .ok (.irem, 1) := by decide +kernel
theorem dX12_race_150 : decode cX12_race 150 = .ok (.invokevirtual 253, 3) := by decide +kernel
theorem dX12_race_153 : decode cX12_race 153 = .ok (.ifCond .eq 10, 3) := by decide +kernel
theorem dX12_race_156 : decode cX12_race 156 = .ok (.iload_n 2, 1) := by decide +kernel
theorem dX12_race_157 : decode cX12_race 157 = .ok (.bipush 10, 2) := by decide +kernel
theorem dX12_race_159 : decode cX12_race 159 = .ok (.irem, 1) := by decide +kernel
theorem dX12_race_160 : decode cX12_race 160 = .ok (.goto 4, 3) := by decide +kernel
theorem dX12_race_163 : decode cX12_race 163 = .ok (.iconst 0, 1) := by decide +kernel
theorem dX12_race_164 : decode cX12_race 164 = .ok (.istore 8, 2) := by decide +kernel
theorem dX12_race_166 : decode cX12_race 166 = .ok (.iload 6, 2) := by decide +kernel
theorem dX12_race_168 : decode cX12_race 168 = .ok (.ldc 252, 2) := by decide +kernel
theorem dX12_race_170 : decode cX12_race 170 = .ok (.imul, 1) := by decide +kernel
theorem dX12_race_171 : decode cX12_race 171 = .ok (.sipush 12345, 3) := by decide +kernel
theorem dX12_race_174 : decode cX12_race 174 = .ok (.iadd, 1) := by decide +kernel
theorem dX12_race_175 : decode cX12_race 175 = .ok (.istore 6, 2) := by decide +kernel
theorem dX12_race_177 : decode cX12_race 177 = .ok (.iload 6, 2) := by decide +kernel
theorem dX12_race_179 : decode cX12_race 179 = .ok (.bipush 8, 2) := by decide +kernel
theorem dX12_race_181 : decode cX12_race 181 = .ok (.iushr, 1) := by decide +kernel
theorem dX12_race_182 : decode cX12_race 182 = .ok (.bipush 21, 2) := by decide +kernel
theorem dX12_race_184 : decode cX12_race 184 = .ok (.irem, 1) := by decide +kernel
theorem dX12_race_185 : decode cX12_race 185 = .ok (.bipush 10, 2) := by decide +kernel
theorem dX12_race_187 : decode cX12_race 187 = .ok (.isub, 1) := by decide +kernel
theorem dX12_race_188 : decode cX12_race 188 = .ok (.istore 9, 2) := by decide +kernel
theorem dX12_race_190 : decode cX12_race 190 = .ok (.aload_n 0, 1) := by decide +kernel
theorem dX12_race_191 : decode cX12_race 191 = .ok (.iload 7, 2) := by decide +kernel
theorem dX12_race_193 : decode cX12_race 193 = .ok (.iload 5, 2) := by decide +kernel
theorem dX12_race_195 : decode cX12_race 195 = .ok (.invokevirtual 235, 3) := by decide +kernel
theorem dX12_race_198 : decode cX12_race 198 = .ok (.aload_n 0, 1) := by decide +kernel
theorem dX12_race_199 : decode cX12_race 199 = .ok (.getfield 31, 3) := by decide +kernel
theorem dX12_race_202 : decode cX12_race 202 = .ok (.iload_n 1, 1) := by decide +kernel
theorem dX12_race_203 : decode cX12_race 203 = .ok (.bipush 10, 2) := by decide +kernel
theorem dX12_race_205 : decode cX12_race 205 = .ok (.irem, 1) := by decide +kernel
theorem dX12_race_206 : decode cX12_race 206 = .ok (.iaload, 1) := by decide +kernel
theorem dX12_race_207 : decode cX12_race 207 = .ok (.imul, 1) := by decide +kernel
theorem dX12_race_208 : decode cX12_race 208 = .ok (.sipush 1000, 3) := by decide +kernel
theorem dX12_race_211 : decode cX12_race 211 = .ok (.idiv, 1) := by decide +kernel
theorem dX12_race_212 : decode cX12_race 212 = .ok (.sipush 1000, 3) := by decide +kernel
theorem dX12_race_215 : decode cX12_race 215 = .ok (.iload_n 3, 1) := by decide +kernel
theorem dX12_race_216 : decode cX12_race 216 = .ok (.iadd, 1) := by decide +kernel
theorem dX12_race_217 : decode cX12_race 217 = .ok (.iload 9, 2) := by decide +kernel
theorem dX12_race_219 : decode cX12_race 219 = .ok (.iadd, 1) := by decide +kernel
theorem dX12_race_220 : decode cX12_race 220 = .ok (.aload_n 0, 1) := by decide +kernel
theorem dX12_race_221 : decode cX12_race 221 = .ok (.getfield 25, 3) := by decide +kernel
theorem dX12_race_224 : decode cX12_race 224 = .ok (.iload 8, 2) := by decide +kernel
theorem dX12_race_226 : decode cX12_race 226 = .ok (.iaload, 1) := by decide +kernel
theorem dX12_race_227 : decode cX12_race 227 = .ok (.isub, 1) := by decide +kernel
theorem dX12_race_228 : decode cX12_race 228 = .ok (.imul, 1) := by decide +kernel
theorem dX12_race_229 : decode cX12_race 229 = .ok (.sipush 1000, 3) := by decide +kernel
theorem dX12_race_232 : decode cX12_race 232 = .ok (.idiv, 1) := by decide +kernel
theorem dX12_race_233 : decode cX12_race 233 = .ok (.istore 10, 2) := by decide +kernel
theorem dX12_race_235 : decode cX12_race 235 = .ok (.iload 10, 2) := by decide +kernel
theorem dX12_race_237 : decode cX12_race 237 = .ok (.bipush 10, 2) := by decide +kernel
theorem dX12_race_239 : decode cX12_race 239 = .ok (.if_icmp .ge 8, 3) := by decide +kernel
theorem dX12_race_242 : decode cX12_race 242 = .ok (.bipush 10, 2) := by decide +kernel
theorem dX12_race_244 : decode cX12_race 244 = .ok (.goto 19, 3) := by decide +kernel
theorem dX12_race_247 : decode cX12_race 247 = .ok (.iload 10, 2) := by decide +kernel
theorem dX12_race_249 : decode cX12_race 249 = .ok (.sipush 29999, 3) := by decide +kernel
theorem dX12_race_252 : decode cX12_race 252 = .ok (.if_icmp .le 9, 3) := by decide +kernel
theorem dX12_race_255 : decode cX12_race 255 = .ok (.sipush 29999, 3) := by decide +kernel
theorem dX12_race_258 : decode cX12_race 258 = .ok (.goto 5, 3) := by decide +kernel
theorem dX12_race_261 : decode cX12_race 261 = .ok (.iload 10, 2) := by decide +kernel
theorem dX12_race_263 : decode cX12_race 263 = .ok (.istore 10, 2) := by decide +kernel
theorem dX12_race_265 : decode cX12_race 265 = .ok (.iload 6, 2) := by decide +kernel
theorem dX12_race_267 : decode cX12_race 267 = .ok (.ldc 252, 2) := by decide +kernel
theorem dX12_race_269 : decode cX12_race 269 = .ok (.imul, 1) := by decide +kernel
theorem dX12_race_270 : decode cX12_race 270 = .ok (.sipush 12345, 3) := by decide +kernel
theorem dX12_race_273 : decode cX12_race 273 = .ok (.iadd, 1) := by decide +kernel
theorem dX12_race_274 : decode cX12_race 274 = .ok (.istore 6, 2) := by decide +kernel
theorem dX12_race_276 : decode cX12_race 276 = .ok (.aload_n 0, 1) := by decide +kernel
theorem dX12_race_277 : decode cX12_race 277 = .ok (.iload 7, 2) := by decide +kernel
theorem dX12_race_279 : decode cX12_race 279 = .ok (.iload_n 1, 1) := by decide +kernel
theorem dX12_race_280 : decode cX12_race 280 = .ok (.bipush 10, 2) := by decide +kernel
theorem dX12_race_282 : decode cX12_race 282 = .ok (.irem, 1) := by decide +kernel
theorem dX12_race_283 : decode cX12_race 283 = .ok (.iload 5, 2) := by decide +kernel
theorem dX12_race_285 : decode cX12_race 285 = .ok (.iload 10, 2) := by decide +kernel
theorem dX12_race_287 : decode cX12_race 287 = .ok (.iload 6, 2) := by decide +kernel
theorem dX12_race_289 : decode cX12_race 289 = .ok (.bipush 8, 2) := by decide +kernel
theorem dX12_race_291 : decode cX12_race 291 = .ok (.iushr, 1) := by decide +kernel
theorem dX12_race_292 : decode cX12_race 292 = .ok (.bipush 100, 2) := by decide +kernel
theorem dX12_race_294 : decode cX12_race 294 = .ok (.irem, 1) := by decide +kernel
theorem dX12_race_295 : decode cX12_race 295 = .ok (.aload_n 0, 1) := by decide +kernel
theorem dX12_race_296 : decode cX12_race 296 = .ok (.getfield 49, 3) := by decide +kernel
theorem dX12_race_299 : decode cX12_race 299 = .ok (.if_icmp .ge 8, 3) := by decide +kernel
theorem dX12_race_302 : decode cX12_race 302 = .ok (.iload 8, 2) := by decide +kernel
theorem dX12_race_304 : decode cX12_race 304 = .ok (.goto 4, 3) := by decide +kernel
theorem dX12_race_307 : decode cX12_race 307 = .ok (.iconst (-1), 1) := by decide +kernel
theorem dX12_race_308 : decode cX12_race 308 = .ok (.invokevirtual 145, 3) := by decide +kernel
theorem dX12_race_311 : decode cX12_race 311 = .ok (.iinc 7 1, 3) := by decide +kernel
theorem dX12_race_314 : decode cX12_race 314 = .ok (.goto (-205), 3) := by decide +kernel
theorem dX12_race_317 : decode cX12_race 317 = .ok (.aload_n 0, 1) := by decide +kernel
theorem dX12_race_318 : decode cX12_race 318 = .ok (.getfield 122, 3) := by decide +kernel
theorem dX12_race_321 : decode cX12_race 321 = .ok (.ireturn, 1) := by decide +kernel
theorem dX12_isNew_0 : decode cX12_isNew 0 = .ok (.aload_n 0, 1) := by decide +kernel
theorem dX12_isNew_1 : decode cX12_isNew 1 = .ok (.getfield 46, 3) := by decide +kernel
theorem dX12_isNew_4 : decode cX12_isNew 4 = .ok (.iload_n 1, 1) := by decide +kernel
theorem dX12_isNew_5 : decode cX12_isNew 5 = .ok (.iaload, 1) := by decide +kernel
theorem dX12_isNew_6 : decode cX12_isNew 6 = .ok (.ifCond .lt 21, 3) := by decide +kernel
theorem dX12_isNew_9 : decode cX12_isNew 9 = .ok (.aload_n 0, 1) := by decide +kernel
theorem dX12_isNew_10 : decode cX12_isNew 10 = .ok (.getfield 25, 3) := by decide +kernel
theorem dX12_isNew_13 : decode cX12_isNew 13 = .ok (.aload_n 0, 1) := by decide +kernel
theorem dX12_isNew_14 : decode cX12_isNew 14 = .ok (.getfield 46, 3) := by decide +kernel
theorem dX12_isNew_17 : decode cX12_isNew 17 = .ok (.iload_n 1, 1) := by decide +kernel
theorem dX12_isNew_18 : decode cX12_isNew 18 = .ok (.iaload, 1) := by decide +kernel
theorem dX12_isNew_19 : decode cX12_isNew 19 = .ok (.iaload, 1) := by decide +kernel
theorem dX12_isNew_20 : decode cX12_isNew 20 = .ok (.ifCond .le 7, 3) := by decide +kernel
theorem dX12_isNew_23 : decode cX12_isNew 23 = .ok (.iconst 1, 1) := by decide +kernel
theorem dX12_isNew_24 : decode cX12_isNew 24 = .ok (.goto 4, 3) := by decide +kernel
theorem dX12_isNew_27 : decode cX12_isNew 27 = .ok (.iconst 0, 1) := by decide +kernel
theorem dX12_isNew_28 : decode cX12_isNew 28 = .ok (.ireturn, 1) := by decide +kernel
theorem dX12_isOld_0 : decode cX12_isOld 0 = .ok (.aload_n 0, 1) := by decide +kernel
theorem dX12_isOld_1 : decode cX12_isOld 1 = .ok (.getfield 46, 3) := by decide +kernel
theorem dX12_isOld_4 : decode cX12_isOld 4 = .ok (.iload_n 1, 1) := by decide +kernel
theorem dX12_isOld_5 : decode cX12_isOld 5 = .ok (.iaload, 1) := by decide +kernel
theorem dX12_isOld_6 : decode cX12_isOld 6 = .ok (.ifCond .lt 21, 3) := by decide +kernel
theorem dX12_isOld_9 : decode cX12_isOld 9 = .ok (.aload_n 0, 1) := by decide +kernel
theorem dX12_isOld_10 : decode cX12_isOld 10 = .ok (.getfield 25, 3) := by decide +kernel
theorem dX12_isOld_13 : decode cX12_isOld 13 = .ok (.aload_n 0, 1) := by decide +kernel
theorem dX12_isOld_14 : decode cX12_isOld 14 = .ok (.getfield 46, 3) := by decide +kernel
theorem dX12_isOld_17 : decode cX12_isOld 17 = .ok (.iload_n 1, 1) := by decide +kernel
theorem dX12_isOld_18 : decode cX12_isOld 18 = .ok (.iaload, 1) := by decide +kernel
theorem dX12_isOld_19 : decode cX12_isOld 19 = .ok (.iaload, 1) := by decide +kernel
theorem dX12_isOld_20 : decode cX12_isOld 20 = .ok (.ifCond .gt 7, 3) := by decide +kernel
theorem dX12_isOld_23 : decode cX12_isOld 23 = .ok (.iconst 1, 1) := by decide +kernel
theorem dX12_isOld_24 : decode cX12_isOld 24 = .ok (.goto 4, 3) := by decide +kernel
theorem dX12_isOld_27 : decode cX12_isOld 27 = .ok (.iconst 0, 1) := by decide +kernel
theorem dX12_isOld_28 : decode cX12_isOld 28 = .ok (.ireturn, 1) := by decide +kernel
theorem dX12_nextOf_0 : decode cX12_nextOf 0 = .ok (.iconst (-1), 1) := by decide +kernel
theorem dX12_nextOf_1 : decode cX12_nextOf 1 = .ok (.istore_n 2, 1) := by decide +kernel
theorem dX12_nextOf_2 : decode cX12_nextOf 2 = .ok (.iconst 0, 1) := by decide +kernel
theorem dX12_nextOf_3 : decode cX12_nextOf 3 = .ok (.istore_n 3, 1) := by decide +kernel
theorem dX12_nextOf_4 : decode cX12_nextOf 4 = .ok (.iload_n 3, 1) := by decide +kernel
theorem dX12_nextOf_5 : decode cX12_nextOf 5 = .ok (.aload_n 0, 1) := by decide +kernel
theorem dX12_nextOf_6 : decode cX12_nextOf 6 = .ok (.getfield 128, 3) := by decide +kernel
theorem dX12_nextOf_9 : decode cX12_nextOf 9 = .ok (.if_icmp .ge 48, 3) := by decide +kernel
theorem dX12_nextOf_12 : decode cX12_nextOf 12 = .ok (.aload_n 0, 1) := by decide +kernel
theorem dX12_nextOf_13 : decode cX12_nextOf 13 = .ok (.getfield 34, 3) := by decide +kernel
theorem dX12_nextOf_16 : decode cX12_nextOf 16 = .ok (.iload_n 3, 1) := by decide +kernel
theorem dX12_nextOf_17 : decode cX12_nextOf 17 = .ok (.iaload, 1) := by decide +kernel
theorem dX12_nextOf_18 : decode cX12_nextOf 18 = .ok (.aload_n 0, 1) := by decide +kernel
theorem dX12_nextOf_19 : decode cX12_nextOf 19 = .ok (.getfield 34, 3) := by decide +kernel
theorem dX12_nextOf_22 : decode cX12_nextOf 22 = .ok (.iload_n 1, 1) := by decide +kernel
theorem dX12_nextOf_23 : decode cX12_nextOf 23 = .ok (.iaload, 1) := by decide +kernel
theorem dX12_nextOf_24 : decode cX12_nextOf 24 = .ok (.if_icmp .ne 27, 3) := by decide +kernel
theorem dX12_nextOf_27 : decode cX12_nextOf 27 = .ok (.aload_n 0, 1) := by decide +kernel
theorem dX12_nextOf_28 : decode cX12_nextOf 28 = .ok (.iload_n 1, 1) := by decide +kernel
theorem dX12_nextOf_29 : decode cX12_nextOf 29 = .ok (.iload_n 3, 1) := by decide +kernel
theorem dX12_nextOf_30 : decode cX12_nextOf 30 = .ok (.invokevirtual 149, 3) := by decide +kernel
theorem dX12_nextOf_33 : decode cX12_nextOf 33 = .ok (.ifCond .eq 18, 3) := by decide +kernel
theorem dX12_nextOf_36 : decode cX12_nextOf 36 = .ok (.iload_n 2, 1) := by decide +kernel
theorem dX12_nextOf_37 : decode cX12_nextOf 37 = .ok (.ifCond .lt 12, 3) := by decide +kernel
theorem dX12_nextOf_40 : decode cX12_nextOf 40 = .ok (.aload_n 0, 1) := by decide +kernel
theorem dX12_nextOf_41 : decode cX12_nextOf 41 = .ok (.iload_n 3, 1) := by decide +kernel
theorem dX12_nextOf_42 : decode cX12_nextOf 42 = .ok (.iload_n 2, 1) := by decide +kernel
theorem dX12_nextOf_43 : decode cX12_nextOf 43 = .ok (.invokevirtual 149, 3) := by decide +kernel
theorem dX12_nextOf_46 : decode cX12_nextOf 46 = .ok (.ifCond .eq 5, 3) := by decide +kernel
theorem dX12_nextOf_49 : decode cX12_nextOf 49 = .ok (.iload_n 3, 1) := by decide +kernel
theorem dX12_nextOf_50 : decode cX12_nextOf 50 = .ok (.istore_n 2, 1) := by decide +kernel
theorem dX12_nextOf_51 : decode cX12_nextOf 51 = .ok (.iinc 3 1, 3) := by decide +kernel
theorem dX12_nextOf_54 : decode cX12_nextOf 54 = .ok (.goto (-50), 3) := by decide +kernel
theorem dX12_nextOf_57 : decode cX12_nextOf 57 = .ok (.iload_n 2, 1) := by decide +kernel
theorem dX12_nextOf_58 : decode cX12_nextOf 58 = .ok (.ireturn, 1) := by decide +kernel
theorem dX12_sortOf_0 : decode cX12_sortOf 0 = .ok (.iload_n 2, 1) := by decide +kernel
theorem dX12_sortOf_1 : decode cX12_sortOf 1 = .ok (.ifCond .lt 21, 3) := by decide +kernel
theorem dX12_sortOf_4 : decode cX12_sortOf 4 = .ok (.aload_n 0, 1) := by decide +kernel
theorem dX12_sortOf_5 : decode cX12_sortOf 5 = .ok (.getfield 46, 3) := by decide +kernel
theorem dX12_sortOf_8 : decode cX12_sortOf 8 = .ok (.iload_n 1, 1) := by decide +kernel
theorem dX12_sortOf_9 : decode cX12_sortOf 9 = .ok (.iaload, 1) := by decide +kernel
theorem dX12_sortOf_10 : decode cX12_sortOf 10 = .ok (.ifCond .lt 12, 3) := by decide +kernel
theorem dX12_sortOf_13 : decode cX12_sortOf 13 = .ok (.aload_n 0, 1) := by decide +kernel
theorem dX12_sortOf_14 : decode cX12_sortOf 14 = .ok (.getfield 46, 3) := by decide +kernel
theorem dX12_sortOf_17 : decode cX12_sortOf 17 = .ok (.iload_n 2, 1) := by decide +kernel
theorem dX12_sortOf_18 : decode cX12_sortOf 18 = .ok (.iaload, 1) := by decide +kernel
theorem dX12_sortOf_19 : decode cX12_sortOf 19 = .ok (.ifCond .ge 5, 3) := by decide +kernel
theorem dX12_sortOf_22 : decode cX12_sortOf 22 = .ok (.iconst (-1), 1) := by decide +kernel
theorem dX12_sortOf_23 : decode cX12_sortOf 23 = .ok (.ireturn, 1) := by decide +kernel
theorem dX12_sortOf_24 : decode cX12_sortOf 24 = .ok (.aload_n 0, 1) := by decide +kernel
theorem dX12_sortOf_25 : decode cX12_sortOf 25 = .ok (.iload_n 1, 1) := by decide +kernel
theorem dX12_sortOf_26 : decode cX12_sortOf 26 = .ok (.invokevirtual 256, 3) := by decide +kernel
theorem dX12_sortOf_29 : decode cX12_sortOf 29 = .ok (.ifCond .eq 19, 3) := by decide +kernel
theorem dX12_sortOf_32 : decode cX12_sortOf 32 = .ok (.aload_n 0, 1) := by decide +kernel
theorem dX12_sortOf_33 : decode cX12_sortOf 33 = .ok (.iload_n 2, 1) := by decide +kernel
theorem dX12_sortOf_34 : decode cX12_sortOf 34 = .ok (.invokevirtual 256, 3) := by decide +kernel
theorem dX12_sortOf_37 : decode cX12_sortOf 37 = .ok (.ifCond .eq 7, 3) := by decide +kernel
theorem dX12_sortOf_40 : decode cX12_sortOf 40 = .ok (.iconst 3, 1) := by decide +kernel
theorem dX12_sortOf_41 : decode cX12_sortOf 41 = .ok (.goto 20, 3) := by decide +kernel
theorem dX12_sortOf_44 : decode cX12_sortOf 44 = .ok (.iconst 1, 1) := by decide +kernel
theorem dX12_sortOf_45 : decode cX12_sortOf 45 = .ok (.goto 16, 3) := by decide +kernel
theorem dX12_sortOf_48 : decode cX12_sortOf 48 = .ok (.aload_n 0, 1) := by decide +kernel
theorem dX12_sortOf_49 : decode cX12_sortOf 49 = .ok (.iload_n 2, 1) := by decide +kernel
theorem dX12_sortOf_50 : decode cX12_sortOf 50 = .ok (.invokevirtual 256, 3) := by decide +kernel
theorem dX12_sortOf_53 : decode cX12_sortOf 53 = .ok (.ifCond .eq 7, 3) := by decide +kernel
theorem dX12_sortOf_56 : decode cX12_sortOf 56 = .ok (.iconst 0, 1) := by decide +kernel
theorem dX12_sortOf_57 : decode cX12_sortOf 57 = .ok (.goto 4, 3) := by decide +kernel
theorem dX12_sortOf_60 : decode cX12_sortOf 60 = .ok (.iconst 2, 1) := by decide +kernel
theorem dX12_sortOf_61 : decode cX12_sortOf 61 = .ok (.ireturn, 1) := by decide +kernel
theorem dX12_gained_0 : decode cX12_gained 0 = .ok (.aload_n 0, 1) := by decide +kernel
theorem dX12_gained_1 : decode cX12_gained 1 = .ok (.iload_n 1, 1) := by decide +kernel
theorem dX12_gained_2 : decode cX12_gained 2 = .ok (.invokevirtual 157, 3) := by decide +kernel
theorem dX12_gained_5 : decode cX12_gained 5 = .ok (.aload_n 0, 1) := by decide +kernel
theorem dX12_gained_6 : decode cX12_gained 6 = .ok (.iload_n 2, 1) := by decide +kernel
theorem dX12_gained_7 : decode cX12_gained 7 = .ok (.invokevirtual 157, 3) := by decide +kernel
theorem dX12_gained_10 : decode cX12_gained 10 = .ok (.isub, 1) := by decide +kernel
theorem dX12_gained_11 : decode cX12_gained 11 = .ok (.sipush 1000, 3) := by decide +kernel
theorem dX12_gained_14 : decode cX12_gained 14 = .ok (.imul, 1) := by decide +kernel
theorem dX12_gained_15 : decode cX12_gained 15 = .ok (.aload_n 0, 1) := by decide +kernel
theorem dX12_gained_16 : decode cX12_gained 16 = .ok (.iload_n 1, 1) := by decide +kernel
theorem dX12_gained_17 : decode cX12_gained 17 = .ok (.invokevirtual 157, 3) := by decide +kernel
theorem dX12_gained_20 : decode cX12_gained 20 = .ok (.idiv, 1) := by decide +kernel
theorem dX12_gained_21 : decode cX12_gained 21 = .ok (.ireturn, 1) := by decide +kernel
theorem dX12_findPairs_0 : decode cX12_findPairs 0 = .ok (.aload_n 0, 1) := by decide +kernel
theorem dX12_findPairs_1 : decode cX12_findPairs 1 = .ok (.iconst 0, 1) := by decide +kernel
theorem dX12_findPairs_2 : decode cX12_findPairs 2 = .ok (.putfield 259, 3) := by decide +kernel
theorem dX12_findPairs_5 : decode cX12_findPairs 5 = .ok (.aload_n 0, 1) := by decide +kernel
theorem dX12_findPairs_6 : decode cX12_findPairs 6 = .ok (.iconst 0, 1) := by decide +kernel
theorem dX12_findPairs_7 : decode cX12_findPairs 7 = .ok (.putfield 262, 3) := by decide +kernel
theorem dX12_findPairs_10 : decode cX12_findPairs 10 = .ok (.iconst 0, 1) := by decide +kernel
theorem dX12_findPairs_11 : decode cX12_findPairs 11 = .ok (.istore_n 2, 1) := by decide +kernel
theorem dX12_findPairs_12 : decode cX12_findPairs 12 = .ok (.iload_n 2, 1) := by decide +kernel
theorem dX12_findPairs_13 : decode cX12_findPairs 13 = .ok (.aload_n 0, 1) := by decide +kernel
theorem dX12_findPairs_14 : decode cX12_findPairs 14 = .ok (.getfield 128, 3) := by decide +kernel
theorem dX12_findPairs_17 : decode cX12_findPairs 17 = .ok (.if_icmp .ge 53, 3) := by decide +kernel
theorem dX12_findPairs_20 : decode cX12_findPairs 20 = .ok (.aload_n 0, 1) := by decide +kernel
theorem dX12_findPairs_21 : decode cX12_findPairs 21 = .ok (.iload_n 2, 1) := by decide +kernel
theorem dX12_findPairs_22 : decode cX12_findPairs 22 = .ok (.invokevirtual 265, 3) := by decide +kernel
theorem dX12_findPairs_25 : decode cX12_findPairs 25 = .ok (.istore_n 3, 1) := by decide +kernel
theorem dX12_findPairs_26 : decode cX12_findPairs 26 = .ok (.aload_n 0, 1) := by decide +kernel
theorem dX12_findPairs_27 : decode cX12_findPairs 27 = .ok (.iload_n 2, 1) := by decide +kernel
theorem dX12_findPairs_28 : decode cX12_findPairs 28 = .ok (.iload_n 3, 1) := by decide +kernel
theorem dX12_findPairs_29 : decode cX12_findPairs 29 = .ok (.invokevirtual 268, 3) := by decide +kernel
theorem dX12_findPairs_32 : decode cX12_findPairs 32 = .ok (.iload_n 1, 1) := by decide +kernel
theorem dX12_findPairs_33 : decode cX12_findPairs 33 = .ok (.if_icmp .eq 6, 3) := by decide +kernel
theorem dX12_findPairs_36 : decode cX12_findPairs 36 = .ok (.goto 28, 3) := by decide +kernel
theorem dX12_findPairs_39 : decode cX12_findPairs 39 = .ok (.aload_n 0, 1) := by decide +kernel
theorem dX12_findPairs_40 : decode cX12_findPairs 40 = .ok (.dup, 1) := by decide +kernel
theorem dX12_findPairs_41 : decode cX12_findPairs 41 = .ok (.getfield 259, 3) := by decide +kernel
theorem dX12_findPairs_44 : decode cX12_findPairs 44 = .ok (.iconst 1, 1) := by decide +kernel
theorem dX12_findPairs_45 : decode cX12_findPairs 45 = .ok (.iadd, 1) := by decide +kernel
theorem dX12_findPairs_46 : decode cX12_findPairs 46 = .ok (.putfield 259, 3) := by decide +kernel
theorem dX12_findPairs_49 : decode cX12_findPairs 49 = .ok (.aload_n 0, 1) := by decide +kernel
theorem dX12_findPairs_50 : decode cX12_findPairs 50 = .ok (.dup, 1) := by decide +kernel
theorem dX12_findPairs_51 : decode cX12_findPairs 51 = .ok (.getfield 262, 3) := by decide +kernel
theorem dX12_findPairs_54 : decode cX12_findPairs 54 = .ok (.aload_n 0, 1) := by decide +kernel
theorem dX12_findPairs_55 : decode cX12_findPairs 55 = .ok (.iload_n 2, 1) := by decide +kernel
theorem dX12_findPairs_56 : decode cX12_findPairs 56 = .ok (.iload_n 3, 1) := by decide +kernel
theorem dX12_findPairs_57 : decode cX12_findPairs 57 = .ok (.invokevirtual 271, 3) := by decide +kernel
theorem dX12_findPairs_60 : decode cX12_findPairs 60 = .ok (.iadd, 1) := by decide +kernel
theorem dX12_findPairs_61 : decode cX12_findPairs 61 = .ok (.putfield 262, 3) := by decide +kernel
theorem dX12_findPairs_64 : decode cX12_findPairs 64 = .ok (.iinc 2 1, 3) := by decide +kernel
theorem dX12_findPairs_67 : decode cX12_findPairs 67 = .ok (.goto (-55), 3) := by decide +kernel
theorem dX12_findPairs_70 : decode cX12_findPairs 70 = .ok (.return_, 1) := by decide +kernel
theorem dX12_meanOf_0 : decode cX12_meanOf 0 = .ok (.aload_n 0, 1) := by decide +kernel
theorem dX12_meanOf_1 : decode cX12_meanOf 1 = .ok (.iload_n 1, 1) := by decide +kernel
theorem dX12_meanOf_2 : decode cX12_meanOf 2 = .ok (.invokevirtual 274, 3) := by decide +kernel
theorem dX12_meanOf_5 : decode cX12_meanOf 5 = .ok (.aload_n 0, 1) := by decide +kernel
theorem dX12_meanOf_6 : decode cX12_meanOf 6 = .ok (.getfield 259, 3) := by decide +kernel
theorem dX12_meanOf_9 : decode cX12_meanOf 9 = .ok (.ifCond .ne 8, 3) := by decide +kernel
theorem dX12_meanOf_12 : decode cX12_meanOf 12 = .ok (.ldc 156, 2) := by decide +kernel
theorem dX12_meanOf_14 : decode cX12_meanOf 14 = .ok (.goto 12, 3) := by decide +kernel
theorem dX12_meanOf_17 : decode cX12_meanOf 17 = .ok (.aload_n 0, 1) := by decide +kernel
theorem dX12_meanOf_18 : decode cX12_meanOf 18 = .ok (.getfield 262, 3) := by decide +kernel
theorem dX12_meanOf_21 : decode cX12_meanOf 21 = .ok (.aload_n 0, 1) := by decide +kernel
theorem dX12_meanOf_22 : decode cX12_meanOf 22 = .ok (.getfield 259, 3) := by decide +kernel
theorem dX12_meanOf_25 : decode cX12_meanOf 25 = .ok (.idiv, 1) := by decide +kernel
theorem dX12_meanOf_26 : decode cX12_meanOf 26 = .ok (.ireturn, 1) := by decide +kernel
theorem dX12_changed_0 : decode cX12_changed 0 = .ok (.iload_n 1, 1) := by decide +kernel
theorem dX12_changed_1 : decode cX12_changed 1 = .ok (.iconst 0, 1) := by decide +kernel
theorem dX12_changed_2 : decode cX12_changed 2 = .ok (.iconst 3, 1) := by decide +kernel
theorem dX12_changed_3 : decode cX12_changed 3 = .ok (.invokestatic 117, 3) := by decide +kernel
theorem dX12_changed_6 : decode cX12_changed 6 = .ok (.ifCond .eq 12, 3) := by decide +kernel
theorem dX12_changed_9 : decode cX12_changed 9 = .ok (.iload_n 2, 1) := by decide +kernel
theorem dX12_changed_10 : decode cX12_changed 10 = .ok (.iconst 0, 1) := by decide +kernel
theorem dX12_changed_11 : decode cX12_changed 11 = .ok (.iconst 1, 1) := by decide +kernel
theorem dX12_changed_12 : decode cX12_changed 12 = .ok (.invokestatic 117, 3) := by decide +kernel
theorem dX12_changed_15 : decode cX12_changed 15 = .ok (.ifCond .ne 6, 3) := by decide +kernel
theorem dX12_changed_18 : decode cX12_changed 18 = .ok (.ldc 156, 2) := by decide +kernel
theorem dX12_changed_20 : decode cX12_changed 20 = .ok (.ireturn, 1) := by decide +kernel
theorem dX12_changed_21 : decode cX12_changed 21 = .ok (.aload_n 0, 1) := by decide +kernel
theorem dX12_changed_22 : decode cX12_changed 22 = .ok (.iload_n 1, 1) := by decide +kernel
theorem dX12_changed_23 : decode cX12_changed 23 = .ok (.invokevirtual 277, 3) := by decide +kernel
theorem dX12_changed_26 : decode cX12_changed 26 = .ok (.istore_n 3, 1) := by decide +kernel
theorem dX12_changed_27 : decode cX12_changed 27 = .ok (.iload_n 2, 1) := by decide +kernel
theorem dX12_changed_28 : decode cX12_changed 28 = .ok (.iconst 1, 1) := by decide +kernel
theorem dX12_changed_29 : decode cX12_changed 29 = .ok (.if_icmp .ne 10, 3) := by decide +kernel
theorem dX12_changed_32 : decode cX12_changed 32 = .ok (.aload_n 0, 1) := by decide +kernel
theorem dX12_changed_33 : decode cX12_changed 33 = .ok (.getfield 259, 3) := by decide +kernel
theorem dX12_changed_36 : decode cX12_changed 36 = .ok (.goto 4, 3) := by decide +kernel
theorem dX12_changed_39 : decode cX12_changed 39 = .ok (.iload_n 3, 1) := by decide +kernel
theorem dX12_changed_40 : decode cX12_changed 40 = .ok (.ireturn, 1) := by decide +kernel
theorem dX12_since_0 : decode cX12_since 0 = .ok (.aload_n 0, 1) := by decide +kernel
theorem dX12_since_1 : decode cX12_since 1 = .ok (.iconst 0, 1) := by decide +kernel
theorem dX12_since_2 : decode cX12_since 2 = .ok (.invokevirtual 277, 3) := by decide +kernel
theorem dX12_since_5 : decode cX12_since 5 = .ok (.istore_n 1, 1) := by decide +kernel
theorem dX12_since_6 : decode cX12_since 6 = .ok (.aload_n 0, 1) := by decide +kernel
theorem dX12_since_7 : decode cX12_since 7 = .ok (.iconst 2, 1) := by decide +kernel
