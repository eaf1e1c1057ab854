theorem dL_cell_0 : decode cL_cell 0 = .ok (.iload_n 1, 1) := by decide +kernel
theorem dL_cell_1 : decode cL_cell 1 = .ok (.aload_n 0, 1) := by decide +kernel
theorem dL_cell_2 : decode cL_cell 2 = .ok (.arraylength, 1) := by decide +kernel
theorem dL_cell_3 : decode cL_cell 3 = .ok (.if_icmp .ge 9, 3) := by decide +kernel
theorem dL_cell_6 : decode cL_cell 6 = .ok (.aload_n 0, 1) := by decide +kernel
theorem dL_cell_7 : decode cL_cell 7 = .ok (.iload_n 1, 1) := by decide +kernel
theorem dL_cell_8 : decode cL_cell 8 = .ok (.iaload, 1) := by decide +kernel
theorem dL_cell_9 : decode cL_cell 9 = .ok (.goto 15, 3) := by decide +kernel
theorem dL_cell_12 : decode cL_cell 12 = .ok (.sipush 7919, 3) := by decide +kernel
theorem dL_cell_15 : decode cL_cell 15 = .ok (.iload_n 1, 1) := by decide +kernel
theorem dL_cell_16 : decode cL_cell 16 = .ok (.iconst 3, 1) := by decide +kernel
theorem dL_cell_17 : decode cL_cell 17 = .ok (.iadd, 1) := by decide +kernel
theorem dL_cell_18 : decode cL_cell 18 = .ok (.imul, 1) := by decide +kernel
theorem dL_cell_19 : decode cL_cell 19 = .ok (.iload_n 1, 1) := by decide +kernel
theorem dL_cell_20 : decode cL_cell 20 = .ok (.bipush 11, 2) := by decide +kernel
theorem dL_cell_22 : decode cL_cell 22 = .ok (.iadd, 1) := by decide +kernel
theorem dL_cell_23 : decode cL_cell 23 = .ok (.imul, 1) := by decide +kernel
theorem dL_cell_24 : decode cL_cell 24 = .ok (.ireturn, 1) := by decide +kernel
theorem dL_low_0 : decode cL_low 0 = .ok (.iload_n 0, 1) := by decide +kernel
theorem dL_low_1 : decode cL_low 1 = .ok (.ldc 7, 2) := by decide +kernel
theorem dL_low_3 : decode cL_low 3 = .ok (.iand, 1) := by decide +kernel
theorem dL_low_4 : decode cL_low 4 = .ok (.iload_n 1, 1) := by decide +kernel
theorem dL_low_5 : decode cL_low 5 = .ok (.irem, 1) := by decide +kernel
theorem dL_low_6 : decode cL_low 6 = .ok (.ireturn, 1) := by decide +kernel
theorem dL_areMeters_0 : decode cL_areMeters 0 = .ok (.aload_n 0, 1) := by decide +kernel
theorem dL_areMeters_1 : decode cL_areMeters 1 = .ok (.iconst 2, 1) := by decide +kernel
theorem dL_areMeters_2 : decode cL_areMeters 2 = .ok (.invokevirtual 8, 3) := by decide +kernel
theorem dL_areMeters_5 : decode cL_areMeters 5 = .ok (.istore_n 1, 1) := by decide +kernel
theorem dL_areMeters_6 : decode cL_areMeters 6 = .ok (.iconst 0, 1) := by decide +kernel
theorem dL_areMeters_7 : decode cL_areMeters 7 = .ok (.istore_n 2, 1) := by decide +kernel
theorem dL_areMeters_8 : decode cL_areMeters 8 = .ok (.iconst 0, 1) := by decide +kernel
theorem dL_areMeters_9 : decode cL_areMeters 9 = .ok (.istore_n 3, 1) := by decide +kernel
theorem dL_areMeters_10 : decode cL_areMeters 10 = .ok (.iconst 0, 1) := by decide +kernel
theorem dL_areMeters_11 : decode cL_areMeters 11 = .ok (.istore 4, 2) := by decide +kernel
theorem dL_areMeters_13 : decode cL_areMeters 13 = .ok (.iconst 0, 1) := by decide +kernel
theorem dL_areMeters_14 : decode cL_areMeters 14 = .ok (.istore 5, 2) := by decide +kernel
theorem dL_areMeters_16 : decode cL_areMeters 16 = .ok (.lconst 0, 1) := by decide +kernel
theorem dL_areMeters_17 : decode cL_areMeters 17 = .ok (.lstore 6, 2) := by decide +kernel
theorem dL_areMeters_19 : decode cL_areMeters 19 = .ok (.bipush (-6), 2) := by decide +kernel
theorem dL_areMeters_21 : decode cL_areMeters 21 = .ok (.istore 8, 2) := by decide +kernel
theorem dL_areMeters_23 : decode cL_areMeters 23 = .ok (.iconst 0, 1) := by decide +kernel
theorem dL_areMeters_24 : decode cL_areMeters 24 = .ok (.istore 9, 2) := by decide +kernel
theorem dL_areMeters_26 : decode cL_areMeters 26 = .ok (.iload 9, 2) := by decide +kernel
theorem dL_areMeters_28 : decode cL_areMeters 28 = .ok (.aload_n 0, 1) := by decide +kernel
theorem dL_areMeters_29 : decode cL_areMeters 29 = .ok (.iconst 3, 1) := by decide +kernel
theorem dL_areMeters_30 : decode cL_areMeters 30 = .ok (.invokevirtual 8, 3) := by decide +kernel
theorem dL_areMeters_33 : decode cL_areMeters 33 = .ok (.if_icmp .ge 31, 3) := by decide +kernel
theorem dL_areMeters_36 : decode cL_areMeters 36 = .ok (.iload 9, 2) := by decide +kernel
theorem dL_areMeters_38 : decode cL_areMeters 38 = .ok (.bipush 12, 2) := by decide +kernel
theorem dL_areMeters_40 : decode cL_areMeters 40 = .ok (.if_icmp .ge 24, 3) := by decide +kernel
theorem dL_areMeters_43 : decode cL_areMeters 43 = .ok (.iload 5, 2) := by decide +kernel
theorem dL_areMeters_45 : decode cL_areMeters 45 = .ok (.aload_n 0, 1) := by decide +kernel
theorem dL_areMeters_46 : decode cL_areMeters 46 = .ok (.iload 9, 2) := by decide +kernel
theorem dL_areMeters_48 : decode cL_areMeters 48 = .ok (.iconst 2, 1) := by decide +kernel
theorem dL_areMeters_49 : decode cL_areMeters 49 = .ok (.invokevirtual 14, 3) := by decide +kernel
theorem dL_areMeters_52 : decode cL_areMeters 52 = .ok (.iload 9, 2) := by decide +kernel
theorem dL_areMeters_54 : decode cL_areMeters 54 = .ok (.ishl, 1) := by decide +kernel
theorem dL_areMeters_55 : decode cL_areMeters 55 = .ok (.ior, 1) := by decide +kernel
theorem dL_areMeters_56 : decode cL_areMeters 56 = .ok (.istore 5, 2) := by decide +kernel
theorem dL_areMeters_58 : decode cL_areMeters 58 = .ok (.iinc 9 1, 3) := by decide +kernel
theorem dL_areMeters_61 : decode cL_areMeters 61 = .ok (.goto (-35), 3) := by decide +kernel
theorem dL_areMeters_64 : decode cL_areMeters 64 = .ok (.iconst 0, 1) := by decide +kernel
theorem dL_areMeters_65 : decode cL_areMeters 65 = .ok (.istore 9, 2) := by decide +kernel
theorem dL_areMeters_67 : decode cL_areMeters 67 = .ok (.iload 9, 2) := by decide +kernel
theorem dL_areMeters_69 : decode cL_areMeters 69 = .ok (.iload_n 1, 1) := by decide +kernel
theorem dL_areMeters_70 : decode cL_areMeters 70 = .ok (.if_icmp .ge 537, 3) := by decide +kernel
theorem dL_areMeters_73 : decode cL_areMeters 73 = .ok (.iload 9, 2) := by decide +kernel
theorem dL_areMeters_75 : decode cL_areMeters 75 = .ok (.bipush 7, 2) := by decide +kernel
theorem dL_areMeters_77 : decode cL_areMeters 77 = .ok (.if_icmp .ge 530, 3) := by decide +kernel
theorem dL_areMeters_80 : decode cL_areMeters 80 = .ok (.aload_n 0, 1) := by decide +kernel
theorem dL_areMeters_81 : decode cL_areMeters 81 = .ok (.iload 9, 2) := by decide +kernel
theorem dL_areMeters_83 : decode cL_areMeters 83 = .ok (.iconst 0, 1) := by decide +kernel
theorem dL_areMeters_84 : decode cL_areMeters 84 = .ok (.invokevirtual 18, 3) := by decide +kernel
theorem dL_areMeters_87 : decode cL_areMeters 87 = .ok (.istore 10, 2) := by decide +kernel
theorem dL_areMeters_89 : decode cL_areMeters 89 = .ok (.aload_n 0, 1) := by decide +kernel
theorem dL_areMeters_90 : decode cL_areMeters 90 = .ok (.iload 9, 2) := by decide +kernel
theorem dL_areMeters_92 : decode cL_areMeters 92 = .ok (.invokevirtual 21, 3) := by decide +kernel
theorem dL_areMeters_95 : decode cL_areMeters 95 = .ok (.istore 11, 2) := by decide +kernel
theorem dL_areMeters_97 : decode cL_areMeters 97 = .ok (.iconst 0, 1) := by decide +kernel
theorem dL_areMeters_98 : decode cL_areMeters 98 = .ok (.istore 12, 2) := by decide +kernel
theorem dL_areMeters_100 : decode cL_areMeters 100 = .ok (.iconst 0, 1) := by decide +kernel
theorem dL_areMeters_101 : decode cL_areMeters 101 = .ok (.istore 13, 2) := by decide +kernel
theorem dL_areMeters_103 : decode cL_areMeters 103 = .ok (.aload_n 0, 1) := by decide +kernel
theorem dL_areMeters_104 : decode cL_areMeters 104 = .ok (.iload 9, 2) := by decide +kernel
theorem dL_areMeters_106 : decode cL_areMeters 106 = .ok (.iconst 4, 1) := by decide +kernel
theorem dL_areMeters_107 : decode cL_areMeters 107 = .ok (.invokevirtual 18, 3) := by decide +kernel
theorem dL_areMeters_110 : decode cL_areMeters 110 = .ok (.aload_n 0, 1) := by decide +kernel
theorem dL_areMeters_111 : decode cL_areMeters 111 = .ok (.iload 9, 2) := by decide +kernel
theorem dL_areMeters_113 : decode cL_areMeters 113 = .ok (.iconst 5, 1) := by decide +kernel
theorem dL_areMeters_114 : decode cL_areMeters 114 = .ok (.invokevirtual 18, 3) := by decide +kernel
theorem dL_areMeters_117 : decode cL_areMeters 117 = .ok (.iadd, 1) := by decide +kernel
theorem dL_areMeters_118 : decode cL_areMeters 118 = .ok (.istore 14, 2) := by decide +kernel
theorem dL_areMeters_120 : decode cL_areMeters 120 = .ok (.iconst 0, 1) := by decide +kernel
theorem dL_areMeters_121 : decode cL_areMeters 121 = .ok (.istore 15, 2) := by decide +kernel
theorem dL_areMeters_123 : decode cL_areMeters 123 = .ok (.iload 15, 2) := by decide +kernel
theorem dL_areMeters_125 : decode cL_areMeters 125 = .ok (.aload_n 0, 1) := by decide +kernel
theorem dL_areMeters_126 : decode cL_areMeters 126 = .ok (.iconst 3, 1) := by decide +kernel
theorem dL_areMeters_127 : decode cL_areMeters 127 = .ok (.invokevirtual 8, 3) := by decide +kernel
theorem dL_areMeters_130 : decode cL_areMeters 130 = .ok (.if_icmp .ge 59, 3) := by decide +kernel
theorem dL_areMeters_133 : decode cL_areMeters 133 = .ok (.iload 15, 2) := by decide +kernel
theorem dL_areMeters_135 : decode cL_areMeters 135 = .ok (.bipush 12, 2) := by decide +kernel
theorem dL_areMeters_137 : decode cL_areMeters 137 = .ok (.if_icmp .ge 52, 3) := by decide +kernel
theorem dL_areMeters_140 : decode cL_areMeters 140 = .ok (.iload 12, 2) := by decide +kernel
theorem dL_areMeters_142 : decode cL_areMeters 142 = .ok (.iload 11, 2) := by decide +kernel
theorem dL_areMeters_144 : decode cL_areMeters 144 = .ok (.aload_n 0, 1) := by decide +kernel
theorem dL_areMeters_145 : decode cL_areMeters 145 = .ok (.iload 15, 2) := by decide +kernel
theorem dL_areMeters_147 : decode cL_areMeters 147 = .ok (.iconst 0, 1) := by decide +kernel
theorem dL_areMeters_148 : decode cL_areMeters 148 = .ok (.invokevirtual 14, 3) := by decide +kernel
theorem dL_areMeters_151 : decode cL_areMeters 151 = .ok (.ishr, 1) := by decide +kernel
theorem dL_areMeters_152 : decode cL_areMeters 152 = .ok (.iconst 1, 1) := by decide +kernel
theorem dL_areMeters_153 : decode cL_areMeters 153 = .ok (.iand, 1) := by decide +kernel
theorem dL_areMeters_154 : decode cL_areMeters 154 = .ok (.iconst 1, 1) := by decide +kernel
theorem dL_areMeters_155 : decode cL_areMeters 155 = .ok (.if_icmp .ne 24, 3) := by decide +kernel
theorem dL_areMeters_158 : decode cL_areMeters 158 = .ok (.aload_n 0, 1) := by decide +kernel
theorem dL_areMeters_159 : decode cL_areMeters 159 = .ok (.iload 15, 2) := by decide +kernel
theorem dL_areMeters_161 : decode cL_areMeters 161 = .ok (.iconst 2, 1) := by decide +kernel
theorem dL_areMeters_162 : decode cL_areMeters 162 = .ok (.invokevirtual 14, 3) := by decide +kernel
theorem dL_areMeters_165 : decode cL_areMeters 165 = .ok (.iconst 1, 1) := by decide +kernel
theorem dL_areMeters_166 : decode cL_areMeters 166 = .ok (.if_icmp .ne 13, 3) := by decide +kernel
theorem dL_areMeters_169 : decode cL_areMeters 169 = .ok (.aload_n 0, 1) := by decide +kernel
theorem dL_areMeters_170 : decode cL_areMeters 170 = .ok (.iload 15, 2) := by decide +kernel
theorem dL_areMeters_172 : decode cL_areMeters 172 = .ok (.iconst 1, 1) := by decide +kernel
theorem dL_areMeters_173 : decode cL_areMeters 173 = .ok (.invokevirtual 14, 3) := by decide +kernel
theorem dL_areMeters_176 : decode cL_areMeters 176 = .ok (.goto 4, 3) := by decide +kernel
theorem dL_areMeters_179 : decode cL_areMeters 179 = .ok (.iconst 0, 1) := by decide +kernel
theorem dL_areMeters_180 : decode cL_areMeters 180 = .ok (.iadd, 1) := by decide +kernel
theorem dL_areMeters_181 : decode cL_areMeters 181 = .ok (.istore 12, 2) := by decide +kernel
theorem dL_areMeters_183 : decode cL_areMeters 183 = .ok (.iinc 15 1, 3) := by decide +kernel
theorem dL_areMeters_186 : decode cL_areMeters 186 = .ok (.goto (-63), 3) := by decide +kernel
theorem dL_areMeters_189 : decode cL_areMeters 189 = .ok (.iconst 1, 1) := by decide +kernel
theorem dL_areMeters_190 : decode cL_areMeters 190 = .ok (.iload 9, 2) := by decide +kernel
theorem dL_areMeters_192 : decode cL_areMeters 192 = .ok (.ishl, 1) := by decide +kernel
theorem dL_areMeters_193 : decode cL_areMeters 193 = .ok (.istore 15, 2) := by decide +kernel
theorem dL_areMeters_195 : decode cL_areMeters 195 = .ok (.iload 9, 2) := by decide +kernel
theorem dL_areMeters_197 : decode cL_areMeters 197 = .ok (.iconst 1, 1) := by decide +kernel
theorem dL_areMeters_198 : decode cL_areMeters 198 = .ok (.iadd, 1) := by decide +kernel
theorem dL_areMeters_199 : decode cL_areMeters 199 = .ok (.istore 16, 2) := by decide +kernel
theorem dL_areMeters_201 : decode cL_areMeters 201 = .ok (.iload 16, 2) := by decide +kernel
theorem dL_areMeters_203 : decode cL_areMeters 203 = .ok (.iload_n 1, 1) := by decide +kernel
theorem dL_areMeters_204 : decode cL_areMeters 204 = .ok (.if_icmp .ge 93, 3) := by decide +kernel
theorem dL_areMeters_207 : decode cL_areMeters 207 = .ok (.iload 16, 2) := by decide +kernel
theorem dL_areMeters_209 : decode cL_areMeters 209 = .ok (.bipush 7, 2) := by decide +kernel
theorem dL_areMeters_211 : decode cL_areMeters 211 = .ok (.if_icmp .ge 86, 3) := by decide +kernel
theorem dL_areMeters_214 : decode cL_areMeters 214 = .ok (.iload 15, 2) := by decide +kernel
theorem dL_areMeters_216 : decode cL_areMeters 216 = .ok (.aload_n 0, 1) := by decide +kernel
theorem dL_areMeters_217 : decode cL_areMeters 217 = .ok (.iload 16, 2) := by decide +kernel
theorem dL_areMeters_219 : decode cL_areMeters 219 = .ok (.iconst 0, 1) := by decide +kernel
theorem dL_areMeters_220 : decode cL_areMeters 220 = .ok (.invokevirtual 18, 3) := by decide +kernel
theorem dL_areMeters_223 : decode cL_areMeters 223 = .ok (.iload 9, 2) := by decide +kernel
theorem dL_areMeters_225 : decode cL_areMeters 225 = .ok (.if_icmp .lt 26, 3) := by decide +kernel
theorem dL_areMeters_228 : decode cL_areMeters 228 = .ok (.iload 15, 2) := by decide +kernel
theorem dL_areMeters_230 : decode cL_areMeters 230 = .ok (.aload_n 0, 1) := by decide +kernel
theorem dL_areMeters_231 : decode cL_areMeters 231 = .ok (.iload 16, 2) := by decide +kernel
theorem dL_areMeters_233 : decode cL_areMeters 233 = .ok (.iconst 0, 1) := by decide +kernel
theorem dL_areMeters_234 : decode cL_areMeters 234 = .ok (.invokevirtual 18, 3) := by decide +kernel
theorem dL_areMeters_237 : decode cL_areMeters 237 = .ok (.ishr, 1) := by decide +kernel
theorem dL_areMeters_238 : decode cL_areMeters 238 = .ok (.iconst 1, 1) := by decide +kernel
theorem dL_areMeters_239 : decode cL_areMeters 239 = .ok (.iand, 1) := by decide +kernel
theorem dL_areMeters_240 : decode cL_areMeters 240 = .ok (.iconst 1, 1) := by decide +kernel
theorem dL_areMeters_241 : decode cL_areMeters 241 = .ok (.if_icmp .ne 10, 3) := by decide +kernel
theorem dL_areMeters_244 : decode cL_areMeters 244 = .ok (.iconst 1, 1) := by decide +kernel
theorem dL_areMeters_245 : decode cL_areMeters 245 = .ok (.iload 16, 2) := by decide +kernel
theorem dL_areMeters_247 : decode cL_areMeters 247 = .ok (.ishl, 1) := by decide +kernel
theorem dL_areMeters_248 : decode cL_areMeters 248 = .ok (.goto 4, 3) := by decide +kernel
theorem dL_areMeters_251 : decode cL_areMeters 251 = .ok (.iconst 0, 1) := by decide +kernel
theorem dL_areMeters_252 : decode cL_areMeters 252 = .ok (.ior, 1) := by decide +kernel
theorem dL_areMeters_253 : decode cL_areMeters 253 = .ok (.istore 15, 2) := by decide +kernel
theorem dL_areMeters_255 : decode cL_areMeters 255 = .ok (.iload 13, 2) := by decide +kernel
theorem dL_areMeters_257 : decode cL_areMeters 257 = .ok (.aload_n 0, 1) := by decide +kernel
theorem dL_areMeters_258 : decode cL_areMeters 258 = .ok (.iload 16, 2) := by decide +kernel
theorem dL_areMeters_260 : decode cL_areMeters 260 = .ok (.iconst 0, 1) := by decide +kernel
theorem dL_areMeters_261 : decode cL_areMeters 261 = .ok (.invokevirtual 18, 3) := by decide +kernel
theorem dL_areMeters_264 : decode cL_areMeters 264 = .ok (.iload 9, 2) := by decide +kernel
theorem dL_areMeters_266 : decode cL_areMeters 266 = .ok (.if_icmp .ne 21, 3) := by decide +kernel
theorem dL_areMeters_269 : decode cL_areMeters 269 = .ok (.aload_n 0, 1) := by decide +kernel
theorem dL_areMeters_270 : decode cL_areMeters 270 = .ok (.iload 16, 2) := by decide +kernel
theorem dL_areMeters_272 : decode cL_areMeters 272 = .ok (.iconst 4, 1) := by decide +kernel
theorem dL_areMeters_273 : decode cL_areMeters 273 = .ok (.invokevirtual 18, 3) := by decide +kernel
theorem dL_areMeters_276 : decode cL_areMeters 276 = .ok (.aload_n 0, 1) := by decide +kernel
theorem dL_areMeters_277 : decode cL_areMeters 277 = .ok (.iload 16, 2) := by decide +kernel
theorem dL_areMeters_279 : decode cL_areMeters 279 = .ok (.iconst 5, 1) := by decide +kernel
theorem dL_areMeters_280 : decode cL_areMeters 280 = .ok (.invokevirtual 18, 3) := by decide +kernel
theorem dL_areMeters_283 : decode cL_areMeters 283 = .ok (.iadd, 1) := by decide +kernel
theorem dL_areMeters_284 : decode cL_areMeters 284 = .ok (.goto 4, 3) := by decide +kernel
theorem dL_areMeters_287 : decode cL_areMeters 287 = .ok (.iconst 0, 1) := by decide +kernel
theorem dL_areMeters_288 : decode cL_areMeters 288 = .ok (.iadd, 1) := by decide +kernel
theorem dL_areMeters_289 : decode cL_areMeters 289 = .ok (.istore 13, 2) := by decide +kernel
theorem dL_areMeters_291 : decode cL_areMeters 291 = .ok (.iinc 16 1, 3) := by decide +kernel
theorem dL_areMeters_294 : decode cL_areMeters 294 = .ok (.goto (-93), 3) := by decide +kernel
theorem dL_areMeters_297 : decode cL_areMeters 297 = .ok (.iload 9, 2) := by decide +kernel
theorem dL_areMeters_299 : decode cL_areMeters 299 = .ok (.ifCond .ne 13, 3) := by decide +kernel
theorem dL_areMeters_302 : decode cL_areMeters 302 = .ok (.iload 10, 2) := by decide +kernel
theorem dL_areMeters_304 : decode cL_areMeters 304 = .ok (.bipush (-6), 2) := by decide +kernel
theorem dL_areMeters_306 : decode cL_areMeters 306 = .ok (.if_icmp .ne 134, 3) := by decide +kernel
theorem dL_areMeters_309 : decode cL_areMeters 309 = .ok (.goto 15, 3) := by decide +kernel
theorem dL_areMeters_312 : decode cL_areMeters 312 = .ok (.iload 10, 2) := by decide +kernel
theorem dL_areMeters_314 : decode cL_areMeters 314 = .ok (.ifCond .lt 126, 3) := by decide +kernel
theorem dL_areMeters_317 : decode cL_areMeters 317 = .ok (.iload 10, 2) := by decide +kernel
theorem dL_areMeters_319 : decode cL_areMeters 319 = .ok (.iload 9, 2) := by decide +kernel
theorem dL_areMeters_321 : decode cL_areMeters 321 = .ok (.if_icmp .ge 119, 3) := by decide +kernel
theorem dL_areMeters_324 : decode cL_areMeters 324 = .ok (.aload_n 0, 1) := by decide +kernel
theorem dL_areMeters_325 : decode cL_areMeters 325 = .ok (.iload 9, 2) := by decide +kernel
theorem dL_areMeters_327 : decode cL_areMeters 327 = .ok (.iconst 1, 1) := by decide +kernel
theorem dL_areMeters_328 : decode cL_areMeters 328 = .ok (.invokevirtual 18, 3) := by decide +kernel
theorem dL_areMeters_331 : decode cL_areMeters 331 = .ok (.iload 12, 2) := by decide +kernel
theorem dL_areMeters_333 : decode cL_areMeters 333 = .ok (.if_icmp .ne 107, 3) := by decide +kernel
theorem dL_areMeters_336 : decode cL_areMeters 336 = .ok (.iload 11, 2) := by decide +kernel
theorem dL_areMeters_338 : decode cL_areMeters 338 = .ok (.iload 15, 2) := by decide +kernel
theorem dL_areMeters_340 : decode cL_areMeters 340 = .ok (.if_icmp .ne 100, 3) := by decide +kernel
theorem dL_areMeters_343 : decode cL_areMeters 343 = .ok (.aload_n 0, 1) := by decide +kernel
theorem dL_areMeters_344 : decode cL_areMeters 344 = .ok (.iload 9, 2) := by decide +kernel
theorem dL_areMeters_346 : decode cL_areMeters 346 = .ok (.iconst 2, 1) := by decide +kernel
theorem dL_areMeters_347 : decode cL_areMeters 347 = .ok (.invokevirtual 18, 3) := by decide +kernel
theorem dL_areMeters_350 : decode cL_areMeters 350 = .ok (.ifCond .lt 90, 3) := by decide +kernel
theorem dL_areMeters_353 : decode cL_areMeters 353 = .ok (.aload_n 0, 1) := by decide +kernel
theorem dL_areMeters_354 : decode cL_areMeters 354 = .ok (.iload 9, 2) := by decide +kernel
theorem dL_areMeters_356 : decode cL_areMeters 356 = .ok (.iconst 2, 1) := by decide +kernel
theorem dL_areMeters_357 : decode cL_areMeters 357 = .ok (.invokevirtual 18, 3) := by decide +kernel
theorem dL_areMeters_360 : decode cL_areMeters 360 = .ok (.sipush 6000, 3) := by decide +kernel
theorem dL_areMeters_363 : decode cL_areMeters 363 = .ok (.if_icmp .ge 77, 3) := by decide +kernel
theorem dL_areMeters_366 : decode cL_areMeters 366 = .ok (.aload_n 0, 1) := by decide +kernel
theorem dL_areMeters_367 : decode cL_areMeters 367 = .ok (.iload 9, 2) := by decide +kernel
theorem dL_areMeters_369 : decode cL_areMeters 369 = .ok (.iconst 3, 1) := by decide +kernel
theorem dL_areMeters_370 : decode cL_areMeters 370 = .ok (.invokevirtual 18, 3) := by decide +kernel
theorem dL_areMeters_373 : decode cL_areMeters 373 = .ok (.bipush 100, 2) := by decide +kernel
theorem dL_areMeters_375 : decode cL_areMeters 375 = .ok (.if_icmp .lt 65, 3) := by decide +kernel
theorem dL_areMeters_378 : decode cL_areMeters 378 = .ok (.aload_n 0, 1) := by decide +kernel
theorem dL_areMeters_379 : decode cL_areMeters 379 = .ok (.iload 9, 2) := by decide +kernel
theorem dL_areMeters_381 : decode cL_areMeters 381 = .ok (.iconst 3, 1) := by decide +kernel
theorem dL_areMeters_382 : decode cL_areMeters 382 = .ok (.invokevirtual 18, 3) := by decide +kernel
theorem dL_areMeters_385 : decode cL_areMeters 385 = .ok (.sipush 160, 3) := by decide +kernel
theorem dL_areMeters_388 : decode cL_areMeters 388 = .ok (.if_icmp .gt 52, 3) := by decide +kernel
theorem dL_areMeters_391 : decode cL_areMeters 391 = .ok (.aload_n 0, 1) := by decide +kernel
theorem dL_areMeters_392 : decode cL_areMeters 392 = .ok (.iload 9, 2) := by decide +kernel
theorem dL_areMeters_394 : decode cL_areMeters 394 = .ok (.bipush 7, 2) := by decide +kernel
theorem dL_areMeters_396 : decode cL_areMeters 396 = .ok (.invokevirtual 18, 3) := by decide +kernel
theorem dL_areMeters_399 : decode cL_areMeters 399 = .ok (.ifCond .le 41, 3) := by decide +kernel
theorem dL_areMeters_402 : decode cL_areMeters 402 = .ok (.aload_n 0, 1) := by decide +kernel
theorem dL_areMeters_403 : decode cL_areMeters 403 = .ok (.iload 9, 2) := by decide +kernel
theorem dL_areMeters_405 : decode cL_areMeters 405 = .ok (.bipush 7, 2) := by decide +kernel
theorem dL_areMeters_407 : decode cL_areMeters 407 = .ok (.invokevirtual 18, 3) := by decide +kernel
theorem dL_areMeters_410 : decode cL_areMeters 410 = .ok (.aload_n 0, 1) := by decide +kernel
theorem dL_areMeters_411 : decode cL_areMeters 411 = .ok (.bipush 8, 2) := by decide +kernel
theorem dL_areMeters_413 : decode cL_areMeters 413 = .ok (.invokevirtual 8, 3) := by decide +kernel
theorem dL_areMeters_416 : decode cL_areMeters 416 = .ok (.if_icmp .gt 24, 3) := by decide +kernel
theorem dL_areMeters_419 : decode cL_areMeters 419 = .ok (.aload_n 0, 1) := by decide +kernel
theorem dL_areMeters_420 : decode cL_areMeters 420 = .ok (.iload 9, 2) := by decide +kernel
theorem dL_areMeters_422 : decode cL_areMeters 422 = .ok (.invokevirtual 24, 3) := by decide +kernel
theorem dL_areMeters_425 : decode cL_areMeters 425 = .ok (.iload 13, 2) := by decide +kernel
theorem dL_areMeters_427 : decode cL_areMeters 427 = .ok (.iload 14, 2) := by decide +kernel
theorem dL_areMeters_429 : decode cL_areMeters 429 = .ok (.isub, 1) := by decide +kernel
theorem dL_areMeters_430 : decode cL_areMeters 430 = .ok (.ldc 27, 2) := by decide +kernel
theorem dL_areMeters_432 : decode cL_areMeters 432 = .ok (.iadd, 1) := by decide +kernel
theorem dL_areMeters_433 : decode cL_areMeters 433 = .ok (.if_icmp .ne 7, 3) := by decide +kernel
theorem dL_areMeters_436 : decode cL_areMeters 436 = .ok (.iconst 1, 1) := by decide +kernel
theorem dL_areMeters_437 : decode cL_areMeters 437 = .ok (.goto 4, 3) := by decide +kernel
theorem dL_areMeters_440 : decode cL_areMeters 440 = .ok (.iconst 0, 1) := by decide +kernel
theorem dL_areMeters_441 : decode cL_areMeters 441 = .ok (.istore 16, 2) := by decide +kernel
theorem dL_areMeters_443 : decode cL_areMeters 443 = .ok (.iload 16, 2) := by decide +kernel
theorem dL_areMeters_445 : decode cL_areMeters 445 = .ok (.ifCond .eq 62, 3) := by decide +kernel
theorem dL_areMeters_448 : decode cL_areMeters 448 = .ok (.aload_n 0, 1) := by decide +kernel
theorem dL_areMeters_449 : decode cL_areMeters 449 = .ok (.iload 9, 2) := by decide +kernel
theorem dL_areMeters_451 : decode cL_areMeters 451 = .ok (.iconst 3, 1) := by decide +kernel
theorem dL_areMeters_452 : decode cL_areMeters 452 = .ok (.invokevirtual 18, 3) := by decide +kernel
theorem dL_areMeters_455 : decode cL_areMeters 455 = .ok (.sipush 160, 3) := by decide +kernel
theorem dL_areMeters_458 : decode cL_areMeters 458 = .ok (.if_icmp .ne 19, 3) := by decide +kernel
theorem dL_areMeters_461 : decode cL_areMeters 461 = .ok (.aload_n 0, 1) := by decide +kernel
theorem dL_areMeters_462 : decode cL_areMeters 462 = .ok (.iload 9, 2) := by decide +kernel
theorem dL_areMeters_464 : decode cL_areMeters 464 = .ok (.bipush 10, 2) := by decide +kernel
theorem dL_areMeters_466 : decode cL_areMeters 466 = .ok (.invokevirtual 18, 3) := by decide +kernel
theorem dL_areMeters_469 : decode cL_areMeters 469 = .ok (.bipush (-6), 2) := by decide +kernel
theorem dL_areMeters_471 : decode cL_areMeters 471 = .ok (.if_icmp .ne 36, 3) := by decide +kernel
theorem dL_areMeters_474 : decode cL_areMeters 474 = .ok (.goto 29, 3) := by decide +kernel
theorem dL_areMeters_477 : decode cL_areMeters 477 = .ok (.aload_n 0, 1) := by decide +kernel
theorem dL_areMeters_478 : decode cL_areMeters 478 = .ok (.iload 9, 2) := by decide +kernel
theorem dL_areMeters_480 : decode cL_areMeters 480 = .ok (.bipush 10, 2) := by decide +kernel
theorem dL_areMeters_482 : decode cL_areMeters 482 = .ok (.invokevirtual 18, 3) := by decide +kernel
theorem dL_areMeters_485 : decode cL_areMeters 485 = .ok (.iconst 1, 1) := by decide +kernel
theorem dL_areMeters_486 : decode cL_areMeters 486 = .ok (.if_icmp .lt 21, 3) := by decide +kernel
theorem dL_areMeters_489 : decode cL_areMeters 489 = .ok (.aload_n 0, 1) := by decide +kernel
theorem dL_areMeters_490 : decode cL_areMeters 490 = .ok (.iload 9, 2) := by decide +kernel
theorem dL_areMeters_492 : decode cL_areMeters 492 = .ok (.bipush 10, 2) := by decide +kernel
theorem dL_areMeters_494 : decode cL_areMeters 494 = .ok (.invokevirtual 18, 3) := by decide +kernel
theorem dL_areMeters_497 : decode cL_areMeters 497 = .ok (.sipush 5000, 3) := by decide +kernel
theorem dL_areMeters_500 : decode cL_areMeters 500 = .ok (.if_icmp .gt 7, 3) := by decide +kernel
theorem dL_areMeters_503 : decode cL_areMeters 503 = .ok (.iconst 1, 1) := by decide +kernel
theorem dL_areMeters_504 : decode cL_areMeters 504 = .ok (.goto 4, 3) := by decide +kernel
theorem dL_areMeters_507 : decode cL_areMeters 507 = .ok (.iconst 0, 1) := by decide +kernel
theorem dL_areMeters_508 : decode cL_areMeters 508 = .ok (.istore 16, 2) := by decide +kernel
theorem dL_areMeters_510 : decode cL_areMeters 510 = .ok (.iload 16, 2) := by decide +kernel
theorem dL_areMeters_512 : decode cL_areMeters 512 = .ok (.ifCond .ne 5, 3) := by decide +kernel
theorem dL_areMeters_515 : decode cL_areMeters 515 = .ok (.iconst 0, 1) := by decide +kernel
theorem dL_areMeters_516 : decode cL_areMeters 516 = .ok (.ireturn, 1) := by decide +kernel
theorem dL_areMeters_517 : decode cL_areMeters 517 = .ok (.aload_n 0, 1) := by decide +kernel
theorem dL_areMeters_518 : decode cL_areMeters 518 = .ok (.iload 9, 2) := by decide +kernel
theorem dL_areMeters_520 : decode cL_areMeters 520 = .ok (.invokevirtual 28, 3) := by decide +kernel
theorem dL_areMeters_523 : decode cL_areMeters 523 = .ok (.lstore 17, 2) := by decide +kernel
theorem dL_areMeters_525 : decode cL_areMeters 525 = .ok (.iload 9, 2) := by decide +kernel
theorem dL_areMeters_527 : decode cL_areMeters 527 = .ok (.ifCond .eq 11, 3) := by decide +kernel
theorem dL_areMeters_530 : decode cL_areMeters 530 = .ok (.lload 17, 2) := by decide +kernel
theorem dL_areMeters_532 : decode cL_areMeters 532 = .ok (.lload 6, 2) := by decide +kernel
theorem dL_areMeters_534 : decode cL_areMeters 534 = .ok (.lcmp, 1) := by decide +kernel
theorem dL_areMeters_535 : decode cL_areMeters 535 = .ok (.ifCond .le 8, 3) := by decide +kernel
theorem dL_areMeters_538 : decode cL_areMeters 538 = .ok (.iload 9, 2) := by decide +kernel
theorem dL_areMeters_540 : decode cL_areMeters 540 = .ok (.goto 5, 3) := by decide +kernel
theorem dL_areMeters_543 : decode cL_areMeters 543 = .ok (.iload 8, 2) := by decide +kernel
theorem dL_areMeters_545 : decode cL_areMeters 545 = .ok (.istore 8, 2) := by decide +kernel
theorem dL_areMeters_547 : decode cL_areMeters 547 = .ok (.iload 9, 2) := by decide +kernel
theorem dL_areMeters_549 : decode cL_areMeters 549 = .ok (.ifCond .eq 11, 3) := by decide +kernel
theorem dL_areMeters_552 : decode cL_areMeters 552 = .ok (.lload 17, 2) := by decide +kernel
theorem dL_areMeters_554 : decode cL_areMeters 554 = .ok (.lload 6, 2) := by decide +kernel
theorem dL_areMeters_556 : decode cL_areMeters 556 = .ok (.lcmp, 1) := by decide +kernel
theorem dL_areMeters_557 : decode cL_areMeters 557 = .ok (.ifCond .le 8, 3) := by decide +kernel
theorem dL_areMeters_560 : decode cL_areMeters 560 = .ok (.lload 17, 2) := by decide +kernel
theorem dL_areMeters_562 : decode cL_areMeters 562 = .ok (.goto 5, 3) := by decide +kernel
theorem dL_areMeters_565 : decode cL_areMeters 565 = .ok (.lload 6, 2) := by decide +kernel
theorem dL_areMeters_567 : decode cL_areMeters 567 = .ok (.lstore 6, 2) := by decide +kernel
theorem dL_areMeters_569 : decode cL_areMeters 569 = .ok (.iload_n 2, 1) := by decide +kernel
theorem dL_areMeters_570 : decode cL_areMeters 570 = .ok (.aload_n 0, 1) := by decide +kernel
theorem dL_areMeters_571 : decode cL_areMeters 571 = .ok (.iload 9, 2) := by decide +kernel
theorem dL_areMeters_573 : decode cL_areMeters 573 = .ok (.bipush 8, 2) := by decide +kernel
theorem dL_areMeters_575 : decode cL_areMeters 575 = .ok (.invokevirtual 18, 3) := by decide +kernel
theorem dL_areMeters_578 : decode cL_areMeters 578 = .ok (.iload 9, 2) := by decide +kernel
theorem dL_areMeters_580 : decode cL_areMeters 580 = .ok (.ishl, 1) := by decide +kernel
theorem dL_areMeters_581 : decode cL_areMeters 581 = .ok (.ior, 1) := by decide +kernel
theorem dL_areMeters_582 : decode cL_areMeters 582 = .ok (.istore_n 2, 1) := by decide +kernel
theorem dL_areMeters_583 : decode cL_areMeters 583 = .ok (.iload_n 3, 1) := by decide +kernel
theorem dL_areMeters_584 : decode cL_areMeters 584 = .ok (.iload 14, 2) := by decide +kernel
theorem dL_areMeters_586 : decode cL_areMeters 586 = .ok (.iadd, 1) := by decide +kernel
theorem dL_areMeters_587 : decode cL_areMeters 587 = .ok (.istore_n 3, 1) := by decide +kernel
theorem dL_areMeters_588 : decode cL_areMeters 588 = .ok (.iload 4, 2) := by decide +kernel
theorem dL_areMeters_590 : decode cL_areMeters 590 = .ok (.aload_n 0, 1) := by decide +kernel
theorem dL_areMeters_591 : decode cL_areMeters 591 = .ok (.iload 9, 2) := by decide +kernel
theorem dL_areMeters_593 : decode cL_areMeters 593 = .ok (.bipush 9, 2) := by decide +kernel
theorem dL_areMeters_595 : decode cL_areMeters 595 = .ok (.invokevirtual 18, 3) := by decide +kernel
theorem dL_areMeters_598 : decode cL_areMeters 598 = .ok (.iadd, 1) := by decide +kernel
theorem dL_areMeters_599 : decode cL_areMeters 599 = .ok (.istore 4, 2) := by decide +kernel
theorem dL_areMeters_601 : decode cL_areMeters 601 = .ok (.iinc 9 1, 3) := by decide +kernel
theorem dL_areMeters_604 : decode cL_areMeters 604 = .ok (.goto (-537), 3) := by decide +kernel
theorem dL_areMeters_607 : decode cL_areMeters 607 = .ok (.iload_n 1, 1) := by decide +kernel
theorem dL_areMeters_608 : decode cL_areMeters 608 = .ok (.bipush 7, 2) := by decide +kernel
theorem dL_areMeters_610 : decode cL_areMeters 610 = .ok (.if_icmp .gt 78, 3) := by decide +kernel
theorem dL_areMeters_613 : decode cL_areMeters 613 = .ok (.aload_n 0, 1) := by decide +kernel
theorem dL_areMeters_614 : decode cL_areMeters 614 = .ok (.iconst 4, 1) := by decide +kernel
theorem dL_areMeters_615 : decode cL_areMeters 615 = .ok (.invokevirtual 8, 3) := by decide +kernel
theorem dL_areMeters_618 : decode cL_areMeters 618 = .ok (.iload 5, 2) := by decide +kernel
theorem dL_areMeters_620 : decode cL_areMeters 620 = .ok (.if_icmp .ne 68, 3) := by decide +kernel
theorem dL_areMeters_623 : decode cL_areMeters 623 = .ok (.aload_n 0, 1) := by decide +kernel
theorem dL_areMeters_624 : decode cL_areMeters 624 = .ok (.iconst 5, 1) := by decide +kernel
theorem dL_areMeters_625 : decode cL_areMeters 625 = .ok (.invokevirtual 8, 3) := by decide +kernel
theorem dL_areMeters_628 : decode cL_areMeters 628 = .ok (.iload_n 2, 1) := by decide +kernel
theorem dL_areMeters_629 : decode cL_areMeters 629 = .ok (.if_icmp .ne 59, 3) := by decide +kernel
theorem dL_areMeters_632 : decode cL_areMeters 632 = .ok (.aload_n 0, 1) := by decide +kernel
theorem dL_areMeters_633 : decode cL_areMeters 633 = .ok (.bipush 6, 2) := by decide +kernel
theorem dL_areMeters_635 : decode cL_areMeters 635 = .ok (.invokevirtual 8, 3) := by decide +kernel
theorem dL_areMeters_638 : decode cL_areMeters 638 = .ok (.iload_n 3, 1) := by decide +kernel
theorem dL_areMeters_639 : decode cL_areMeters 639 = .ok (.if_icmp .ne 49, 3) := by decide +kernel
theorem dL_areMeters_642 : decode cL_areMeters 642 = .ok (.aload_n 0, 1) := by decide +kernel
theorem dL_areMeters_643 : decode cL_areMeters 643 = .ok (.bipush 7, 2) := by decide +kernel
theorem dL_areMeters_645 : decode cL_areMeters 645 = .ok (.invokevirtual 8, 3) := by decide +kernel
theorem dL_areMeters_648 : decode cL_areMeters 648 = .ok (.iload 4, 2) := by decide +kernel
theorem dL_areMeters_650 : decode cL_areMeters 650 = .ok (.if_icmp .ne 38, 3) := by decide +kernel
theorem dL_areMeters_653 : decode cL_areMeters 653 = .ok (.aload_n 0, 1) := by decide +kernel
theorem dL_areMeters_654 : decode cL_areMeters 654 = .ok (.invokevirtual 32, 3) := by decide +kernel
theorem dL_areMeters_657 : decode cL_areMeters 657 = .ok (.iload 8, 2) := by decide +kernel
theorem dL_areMeters_659 : decode cL_areMeters 659 = .ok (.if_icmp .ne 29, 3) := by decide +kernel
theorem dL_areMeters_662 : decode cL_areMeters 662 = .ok (.aload_n 0, 1) := by decide +kernel
theorem dL_areMeters_663 : decode cL_areMeters 663 = .ok (.iload_n 1, 1) := by decide +kernel
theorem dL_areMeters_664 : decode cL_areMeters 664 = .ok (.iconst 0, 1) := by decide +kernel
theorem dL_areMeters_665 : decode cL_areMeters 665 = .ok (.invokevirtual 18, 3) := by decide +kernel
theorem dL_areMeters_668 : decode cL_areMeters 668 = .ok (.iconst (-1), 1) := by decide +kernel
theorem dL_areMeters_669 : decode cL_areMeters 669 = .ok (.if_icmp .ne 19, 3) := by decide +kernel
theorem dL_areMeters_672 : decode cL_areMeters 672 = .ok (.aload_n 0, 1) := by decide +kernel
theorem dL_areMeters_673 : decode cL_areMeters 673 = .ok (.iload_n 1, 1) := by decide +kernel
theorem dL_areMeters_674 : decode cL_areMeters 674 = .ok (.invokevirtual 28, 3) := by decide +kernel
theorem dL_areMeters_677 : decode cL_areMeters 677 = .ok (.ldc2_w 36, 3) := by decide +kernel
theorem dL_areMeters_680 : decode cL_areMeters 680 = .ok (.lcmp, 1) := by decide +kernel
theorem dL_areMeters_681 : decode cL_areMeters 681 = .ok (.ifCond .ne 7, 3) := by decide +kernel
theorem dL_areMeters_684 : decode cL_areMeters 684 = .ok (.iconst 1, 1) := by decide +kernel
theorem dL_areMeters_685 : decode cL_areMeters 685 = .ok (.goto 4, 3) := by decide +kernel
theorem dL_areMeters_688 : decode cL_areMeters 688 = .ok (.iconst 0, 1) := by decide +kernel
theorem dL_areMeters_689 : decode cL_areMeters 689 = .ok (.ireturn, 1) := by decide +kernel
theorem dL_passes_0 : decode cL_passes 0 = .ok (.aload_n 0, 1) := by decide +kernel
theorem dL_passes_1 : decode cL_passes 1 = .ok (.iconst 0, 1) := by decide +kernel
theorem dL_passes_2 : decode cL_passes 2 = .ok (.invokevirtual 8, 3) := by decide +kernel
theorem dL_passes_5 : decode cL_passes 5 = .ok (.istore_n 3, 1) := by decide +kernel
theorem dL_passes_6 : decode cL_passes 6 = .ok (.aload_n 0, 1) := by decide +kernel
theorem dL_passes_7 : decode cL_passes 7 = .ok (.bipush 6, 2) := by decide +kernel
theorem dL_passes_9 : decode cL_passes 9 = .ok (.invokevirtual 8, 3) := by decide +kernel
theorem dL_passes_12 : decode cL_passes 12 = .ok (.istore 4, 2) := by decide +kernel
theorem dL_passes_14 : decode cL_passes 14 = .ok (.aload_n 0, 1) := by decide +kernel
theorem dL_passes_15 : decode cL_passes 15 = .ok (.iconst 2, 1) := by decide +kernel
theorem dL_passes_16 : decode cL_passes 16 = .ok (.invokevirtual 8, 3) := by decide +kernel
theorem dL_passes_19 : decode cL_passes 19 = .ok (.ifCond .ne 37, 3) := by decide +kernel
theorem dL_passes_22 : decode cL_passes 22 = .ok (.aload_n 0, 1) := by decide +kernel
theorem dL_passes_23 : decode cL_passes 23 = .ok (.iload_n 1, 1) := by decide +kernel
theorem dL_passes_24 : decode cL_passes 24 = .ok (.invokevirtual 38, 3) := by decide +kernel
theorem dL_passes_27 : decode cL_passes 27 = .ok (.ifCond .ne 27, 3) := by decide +kernel
theorem dL_passes_30 : decode cL_passes 30 = .ok (.aload_n 0, 1) := by decide +kernel
theorem dL_passes_31 : decode cL_passes 31 = .ok (.iconst 0, 1) := by decide +kernel
theorem dL_passes_32 : decode cL_passes 32 = .ok (.invokevirtual 8, 3) := by decide +kernel
theorem dL_passes_35 : decode cL_passes 35 = .ok (.iload_n 3, 1) := by decide +kernel
theorem dL_passes_36 : decode cL_passes 36 = .ok (.iload_n 1, 1) := by decide +kernel
theorem dL_passes_37 : decode cL_passes 37 = .ok (.iadd, 1) := by decide +kernel
theorem dL_passes_38 : decode cL_passes 38 = .ok (.if_icmp .ne 16, 3) := by decide +kernel
theorem dL_passes_41 : decode cL_passes 41 = .ok (.aload_n 0, 1) := by decide +kernel
theorem dL_passes_42 : decode cL_passes 42 = .ok (.invokevirtual 32, 3) := by decide +kernel
theorem dL_passes_45 : decode cL_passes 45 = .ok (.bipush (-6), 2) := by decide +kernel
theorem dL_passes_47 : decode cL_passes 47 = .ok (.if_icmp .ne 7, 3) := by decide +kernel
theorem dL_passes_50 : decode cL_passes 50 = .ok (.iconst 1, 1) := by decide +kernel
theorem dL_passes_51 : decode cL_passes 51 = .ok (.goto 4, 3) := by decide +kernel
theorem dL_passes_54 : decode cL_passes 54 = .ok (.iconst 0, 1) := by decide +kernel
theorem dL_passes_55 : decode cL_passes 55 = .ok (.ireturn, 1) := by decide +kernel
theorem dL_passes_56 : decode cL_passes 56 = .ok (.aload_n 0, 1) := by decide +kernel
theorem dL_passes_57 : decode cL_passes 57 = .ok (.iload_n 2, 1) := by decide +kernel
theorem dL_passes_58 : decode cL_passes 58 = .ok (.iload_n 1, 1) := by decide +kernel
theorem dL_passes_59 : decode cL_passes 59 = .ok (.iconst 0, 1) := by decide +kernel
theorem dL_passes_60 : decode cL_passes 60 = .ok (.invokevirtual 41, 3) := by decide +kernel
theorem dL_passes_63 : decode cL_passes 63 = .ok (.istore 5, 2) := by decide +kernel
theorem dL_passes_65 : decode cL_passes 65 = .ok (.aload_n 0, 1) := by decide +kernel
theorem dL_passes_66 : decode cL_passes 66 = .ok (.iload_n 2, 1) := by decide +kernel
theorem dL_passes_67 : decode cL_passes 67 = .ok (.iload_n 1, 1) := by decide +kernel
theorem dL_passes_68 : decode cL_passes 68 = .ok (.iconst 1, 1) := by decide +kernel
theorem dL_passes_69 : decode cL_passes 69 = .ok (.invokevirtual 41, 3) := by decide +kernel
theorem dL_passes_72 : decode cL_passes 72 = .ok (.istore 6, 2) := by decide +kernel
theorem dL_passes_74 : decode cL_passes 74 = .ok (.aload_n 0, 1) := by decide +kernel
theorem dL_passes_75 : decode cL_passes 75 = .ok (.iload_n 2, 1) := by decide +kernel
theorem dL_passes_76 : decode cL_passes 76 = .ok (.iconst 4, 1) := by decide +kernel
theorem dL_passes_77 : decode cL_passes 77 = .ok (.invokevirtual 18, 3) := by decide +kernel
theorem dL_passes_80 : decode cL_passes 80 = .ok (.istore 7, 2) := by decide +kernel
theorem dL_passes_82 : decode cL_passes 82 = .ok (.aload_n 0, 1) := by decide +kernel
theorem dL_passes_83 : decode cL_passes 83 = .ok (.iload_n 2, 1) := by decide +kernel
theorem dL_passes_84 : decode cL_passes 84 = .ok (.iconst 5, 1) := by decide +kernel
theorem dL_passes_85 : decode cL_passes 85 = .ok (.invokevirtual 18, 3) := by decide +kernel
theorem dL_passes_88 : decode cL_passes 88 = .ok (.istore 8, 2) := by decide +kernel
theorem dL_passes_90 : decode cL_passes 90 = .ok (.aload_n 0, 1) := by decide +kernel
theorem dL_passes_91 : decode cL_passes 91 = .ok (.iload_n 2, 1) := by decide +kernel
theorem dL_passes_92 : decode cL_passes 92 = .ok (.invokevirtual 45, 3) := by decide +kernel
theorem dL_passes_95 : decode cL_passes 95 = .ok (.istore 9, 2) := by decide +kernel
theorem dL_passes_97 : decode cL_passes 97 = .ok (.aload_n 0, 1) := by decide +kernel
theorem dL_passes_98 : decode cL_passes 98 = .ok (.iload_n 2, 1) := by decide +kernel
theorem dL_passes_99 : decode cL_passes 99 = .ok (.iconst 1, 1) := by decide +kernel
theorem dL_passes_100 : decode cL_passes 100 = .ok (.invokevirtual 18, 3) := by decide +kernel
theorem dL_passes_103 : decode cL_passes 103 = .ok (.istore 10, 2) := by decide +kernel
theorem dL_passes_105 : decode cL_passes 105 = .ok (.aload_n 0, 1) := by decide +kernel
theorem dL_passes_106 : decode cL_passes 106 = .ok (.iload_n 2, 1) := by decide +kernel
theorem dL_passes_107 : decode cL_passes 107 = .ok (.invokevirtual 28, 3) := by decide +kernel
theorem dL_passes_110 : decode cL_passes 110 = .ok (.lstore 11, 2) := by decide +kernel
theorem dL_passes_112 : decode cL_passes 112 = .ok (.aload_n 0, 1) := by decide +kernel
theorem dL_passes_113 : decode cL_passes 113 = .ok (.iload_n 2, 1) := by decide +kernel
theorem dL_passes_114 : decode cL_passes 114 = .ok (.iconst 2, 1) := by decide +kernel
theorem dL_passes_115 : decode cL_passes 115 = .ok (.invokevirtual 18, 3) := by decide +kernel
theorem dL_passes_118 : decode cL_passes 118 = .ok (.istore 13, 2) := by decide +kernel
theorem dL_passes_120 : decode cL_passes 120 = .ok (.aload_n 0, 1) := by decide +kernel
theorem dL_passes_121 : decode cL_passes 121 = .ok (.iload_n 2, 1) := by decide +kernel
theorem dL_passes_122 : decode cL_passes 122 = .ok (.iconst 3, 1) := by decide +kernel
theorem dL_passes_123 : decode cL_passes 123 = .ok (.invokevirtual 18, 3) := by decide +kernel
theorem dL_passes_126 : decode cL_passes 126 = .ok (.istore 14, 2) := by decide +kernel
theorem dL_passes_128 : decode cL_passes 128 = .ok (.aload_n 0, 1) := by decide +kernel
theorem dL_passes_129 : decode cL_passes 129 = .ok (.iload_n 2, 1) := by decide +kernel
theorem dL_passes_130 : decode cL_passes 130 = .ok (.bipush 10, 2) := by decide +kernel
theorem dL_passes_132 : decode cL_passes 132 = .ok (.invokevirtual 18, 3) := by decide +kernel
theorem dL_passes_135 : decode cL_passes 135 = .ok (.istore 15, 2) := by decide +kernel
theorem dL_passes_137 : decode cL_passes 137 = .ok (.aload_n 0, 1) := by decide +kernel
theorem dL_passes_138 : decode cL_passes 138 = .ok (.iload_n 2, 1) := by decide +kernel
theorem dL_passes_139 : decode cL_passes 139 = .ok (.bipush 8, 2) := by decide +kernel
theorem dL_passes_141 : decode cL_passes 141 = .ok (.invokevirtual 18, 3) := by decide +kernel
theorem dL_passes_144 : decode cL_passes 144 = .ok (.iconst 1, 1) := by decide +kernel
theorem dL_passes_145 : decode cL_passes 145 = .ok (.if_icmp .ne 7, 3) := by decide +kernel
theorem dL_passes_148 : decode cL_passes 148 = .ok (.iconst 1, 1) := by decide +kernel
theorem dL_passes_149 : decode cL_passes 149 = .ok (.goto 4, 3) := by decide +kernel
theorem dL_passes_152 : decode cL_passes 152 = .ok (.iconst 0, 1) := by decide +kernel
theorem dL_passes_153 : decode cL_passes 153 = .ok (.istore 16, 2) := by decide +kernel
theorem dL_passes_155 : decode cL_passes 155 = .ok (.aload_n 0, 1) := by decide +kernel
theorem dL_passes_156 : decode cL_passes 156 = .ok (.iload_n 1, 1) := by decide +kernel
theorem dL_passes_157 : decode cL_passes 157 = .ok (.invokevirtual 38, 3) := by decide +kernel
theorem dL_passes_160 : decode cL_passes 160 = .ok (.istore 17, 2) := by decide +kernel
theorem dL_passes_162 : decode cL_passes 162 = .ok (.iload 17, 2) := by decide +kernel
theorem dL_passes_164 : decode cL_passes 164 = .ok (.iload 5, 2) := by decide +kernel
theorem dL_passes_166 : decode cL_passes 166 = .ok (.iload 6, 2) := by decide +kernel
theorem dL_passes_168 : decode cL_passes 168 = .ok (.iadd, 1) := by decide +kernel
theorem dL_passes_169 : decode cL_passes 169 = .ok (.if_icmp .lt 92, 3) := by decide +kernel
theorem dL_passes_172 : decode cL_passes 172 = .ok (.aload_n 0, 1) := by decide +kernel
theorem dL_passes_173 : decode cL_passes 173 = .ok (.bipush 6, 2) := by decide +kernel
theorem dL_passes_175 : decode cL_passes 175 = .ok (.invokevirtual 8, 3) := by decide +kernel
theorem dL_passes_178 : decode cL_passes 178 = .ok (.iload 4, 2) := by decide +kernel
theorem dL_passes_180 : decode cL_passes 180 = .ok (.iload 17, 2) := by decide +kernel
theorem dL_passes_182 : decode cL_passes 182 = .ok (.iadd, 1) := by decide +kernel
theorem dL_passes_183 : decode cL_passes 183 = .ok (.if_icmp .ne 78, 3) := by decide +kernel
theorem dL_passes_186 : decode cL_passes 186 = .ok (.aload_n 0, 1) := by decide +kernel
theorem dL_passes_187 : decode cL_passes 187 = .ok (.iload_n 2, 1) := by decide +kernel
theorem dL_passes_188 : decode cL_passes 188 = .ok (.iconst 4, 1) := by decide +kernel
theorem dL_passes_189 : decode cL_passes 189 = .ok (.invokevirtual 18, 3) := by decide +kernel
theorem dL_passes_192 : decode cL_passes 192 = .ok (.iload 7, 2) := by decide +kernel
theorem dL_passes_194 : decode cL_passes 194 = .ok (.iload 5, 2) := by decide +kernel
theorem dL_passes_196 : decode cL_passes 196 = .ok (.iadd, 1) := by decide +kernel
theorem dL_passes_197 : decode cL_passes 197 = .ok (.if_icmp .ne 64, 3) := by decide +kernel
theorem dL_passes_200 : decode cL_passes 200 = .ok (.aload_n 0, 1) := by decide +kernel
theorem dL_passes_201 : decode cL_passes 201 = .ok (.iload_n 2, 1) := by decide +kernel
theorem dL_passes_202 : decode cL_passes 202 = .ok (.iconst 5, 1) := by decide +kernel
theorem dL_passes_203 : decode cL_passes 203 = .ok (.invokevirtual 18, 3) := by decide +kernel
theorem dL_passes_206 : decode cL_passes 206 = .ok (.iload 8, 2) := by decide +kernel
theorem dL_passes_208 : decode cL_passes 208 = .ok (.iload 6, 2) := by decide +kernel
theorem dL_passes_210 : decode cL_passes 210 = .ok (.iadd, 1) := by decide +kernel
theorem dL_passes_211 : decode cL_passes 211 = .ok (.if_icmp .ne 50, 3) := by decide +kernel
theorem dL_passes_214 : decode cL_passes 214 = .ok (.iload 5, 2) := by decide +kernel
theorem dL_passes_216 : decode cL_passes 216 = .ok (.iload 6, 2) := by decide +kernel
theorem dL_passes_218 : decode cL_passes 218 = .ok (.iadd, 1) := by decide +kernel
theorem dL_passes_219 : decode cL_passes 219 = .ok (.ifCond .le 7, 3) := by decide +kernel
theorem dL_passes_222 : decode cL_passes 222 = .ok (.iconst 1, 1) := by decide +kernel
theorem dL_passes_223 : decode cL_passes 223 = .ok (.goto 4, 3) := by decide +kernel
theorem dL_passes_226 : decode cL_passes 226 = .ok (.iconst 0, 1) := by decide +kernel
theorem dL_passes_227 : decode cL_passes 227 = .ok (.iload 9, 2) := by decide +kernel
theorem dL_passes_229 : decode cL_passes 229 = .ok (.ifCond .le 13, 3) := by decide +kernel
theorem dL_passes_232 : decode cL_passes 232 = .ok (.iload 9, 2) := by decide +kernel
theorem dL_passes_234 : decode cL_passes 234 = .ok (.iload_n 1, 1) := by decide +kernel
theorem dL_passes_235 : decode cL_passes 235 = .ok (.if_icmp .gt 7, 3) := by decide +kernel
theorem dL_passes_238 : decode cL_passes 238 = .ok (.iconst 1, 1) := by decide +kernel
theorem dL_passes_239 : decode cL_passes 239 = .ok (.goto 4, 3) := by decide +kernel
theorem dL_passes_242 : decode cL_passes 242 = .ok (.iconst 0, 1) := by decide +kernel
theorem dL_passes_243 : decode cL_passes 243 = .ok (.if_icmp .ne 18, 3) := by decide +kernel
theorem dL_passes_246 : decode cL_passes 246 = .ok (.aload_n 0, 1) := by decide +kernel
theorem dL_passes_247 : decode cL_passes 247 = .ok (.iconst 0, 1) := by decide +kernel
theorem dL_passes_248 : decode cL_passes 248 = .ok (.invokevirtual 8, 3) := by decide +kernel
theorem dL_passes_251 : decode cL_passes 251 = .ok (.iload_n 3, 1) := by decide +kernel
theorem dL_passes_252 : decode cL_passes 252 = .ok (.iload_n 1, 1) := by decide +kernel
theorem dL_passes_253 : decode cL_passes 253 = .ok (.iadd, 1) := by decide +kernel
theorem dL_passes_254 : decode cL_passes 254 = .ok (.if_icmp .ne 7, 3) := by decide +kernel
theorem dL_passes_257 : decode cL_passes 257 = .ok (.iconst 1, 1) := by decide +kernel
theorem dL_passes_258 : decode cL_passes 258 = .ok (.goto 4, 3) := by decide +kernel
theorem dL_passes_261 : decode cL_passes 261 = .ok (.iconst 0, 1) := by decide +kernel
theorem dL_passes_262 : decode cL_passes 262 = .ok (.istore 18, 2) := by decide +kernel
theorem dL_passes_264 : decode cL_passes 264 = .ok (.ldc2_w 48, 3) := by decide +kernel
theorem dL_passes_267 : decode cL_passes 267 = .ok (.iload 5, 2) := by decide +kernel
theorem dL_passes_269 : decode cL_passes 269 = .ok (.iload 6, 2) := by decide +kernel
theorem dL_passes_271 : decode cL_passes 271 = .ok (.iadd, 1) := by decide +kernel
theorem dL_passes_272 : decode cL_passes 272 = .ok (.i2l, 1) := by decide +kernel
theorem dL_passes_273 : decode cL_passes 273 = .ok (.lmul, 1) := by decide +kernel
theorem dL_passes_274 : decode cL_passes 274 = .ok (.aload_n 0, 1) := by decide +kernel
theorem dL_passes_275 : decode cL_passes 275 = .ok (.iload_n 2, 1) := by decide +kernel
theorem dL_passes_276 : decode cL_passes 276 = .ok (.iconst 2, 1) := by decide +kernel
theorem dL_passes_277 : decode cL_passes 277 = .ok (.invokevirtual 18, 3) := by decide +kernel
theorem dL_passes_280 : decode cL_passes 280 = .ok (.i2l, 1) := by decide +kernel
theorem dL_passes_281 : decode cL_passes 281 = .ok (.ladd, 1) := by decide +kernel
theorem dL_passes_282 : decode cL_passes 282 = .ok (.iload 13, 2) := by decide +kernel
theorem dL_passes_284 : decode cL_passes 284 = .ok (.i2l, 1) := by decide +kernel
theorem dL_passes_285 : decode cL_passes 285 = .ok (.lsub, 1) := by decide +kernel
theorem dL_passes_286 : decode cL_passes 286 = .ok (.lstore 19, 2) := by decide +kernel
theorem dL_passes_288 : decode cL_passes 288 = .ok (.iload 18, 2) := by decide +kernel
theorem dL_passes_290 : decode cL_passes 290 = .ok (.ifCond .eq 35, 3) := by decide +kernel
theorem dL_passes_293 : decode cL_passes 293 = .ok (.aload_n 0, 1) := by decide +kernel
theorem dL_passes_294 : decode cL_passes 294 = .ok (.iload_n 2, 1) := by decide +kernel
theorem dL_passes_295 : decode cL_passes 295 = .ok (.invokevirtual 28, 3) := by decide +kernel
theorem dL_passes_298 : decode cL_passes 298 = .ok (.lload 11, 2) := by decide +kernel
theorem dL_passes_300 : decode cL_passes 300 = .ok (.iload 10, 2) := by decide +kernel
theorem dL_passes_302 : decode cL_passes 302 = .ok (.i2l, 1) := by decide +kernel
theorem dL_passes_303 : decode cL_passes 303 = .ok (.iload_n 1, 1) := by decide +kernel
theorem dL_passes_304 : decode cL_passes 304 = .ok (.i2l, 1) := by decide +kernel
theorem dL_passes_305 : decode cL_passes 305 = .ok (.lmul, 1) := by decide +kernel
theorem dL_passes_306 : decode cL_passes 306 = .ok (.ladd, 1) := by decide +kernel
theorem dL_passes_307 : decode cL_passes 307 = .ok (.lload 19, 2) := by decide +kernel
theorem dL_passes_309 : decode cL_passes 309 = .ok (.lsub, 1) := by decide +kernel
theorem dL_passes_310 : decode cL_passes 310 = .ok (.lcmp, 1) := by decide +kernel
theorem dL_passes_311 : decode cL_passes 311 = .ok (.ifCond .ne 14, 3) := by decide +kernel
theorem dL_passes_314 : decode cL_passes 314 = .ok (.lload 19, 2) := by decide +kernel
theorem dL_passes_316 : decode cL_passes 316 = .ok (.lconst 0, 1) := by decide +kernel
theorem dL_passes_317 : decode cL_passes 317 = .ok (.lcmp, 1) := by decide +kernel
theorem dL_passes_318 : decode cL_passes 318 = .ok (.ifCond .lt 7, 3) := by decide +kernel
theorem dL_passes_321 : decode cL_passes 321 = .ok (.iconst 1, 1) := by decide +kernel
theorem dL_passes_322 : decode cL_passes 322 = .ok (.goto 4, 3) := by decide +kernel
theorem dL_passes_325 : decode cL_passes 325 = .ok (.iconst 0, 1) := by decide +kernel
theorem dL_passes_326 : decode cL_passes 326 = .ok (.istore 18, 2) := by decide +kernel
theorem dL_passes_328 : decode cL_passes 328 = .ok (.iload 10, 2) := by decide +kernel
theorem dL_passes_330 : decode cL_passes 330 = .ok (.ifCond .le 14, 3) := by decide +kernel
theorem dL_passes_333 : decode cL_passes 333 = .ok (.iload 10, 2) := by decide +kernel
theorem dL_passes_335 : decode cL_passes 335 = .ok (.aload_n 0, 1) := by decide +kernel
theorem dL_passes_336 : decode cL_passes 336 = .ok (.bipush 9, 2) := by decide +kernel
theorem dL_passes_338 : decode cL_passes 338 = .ok (.invokevirtual 8, 3) := by decide +kernel
theorem dL_passes_341 : decode cL_passes 341 = .ok (.if_icmp .le 22, 3) := by decide +kernel
theorem dL_passes_344 : decode cL_passes 344 = .ok (.iload 10, 2) := by decide +kernel
theorem dL_passes_346 : decode cL_passes 346 = .ok (.ifCond .ne 35, 3) := by decide +kernel
theorem dL_passes_349 : decode cL_passes 349 = .ok (.iload 16, 2) := by decide +kernel
theorem dL_passes_351 : decode cL_passes 351 = .ok (.ifCond .ne 12, 3) := by decide +kernel
theorem dL_passes_354 : decode cL_passes 354 = .ok (.aload_n 0, 1) := by decide +kernel
theorem dL_passes_355 : decode cL_passes 355 = .ok (.bipush 10, 2) := by decide +kernel
theorem dL_passes_357 : decode cL_passes 357 = .ok (.invokevirtual 8, 3) := by decide +kernel
theorem dL_passes_360 : decode cL_passes 360 = .ok (.ifCond .ne 21, 3) := by decide +kernel
theorem dL_passes_363 : decode cL_passes 363 = .ok (.iload 18, 2) := by decide +kernel
theorem dL_passes_365 : decode cL_passes 365 = .ok (.ifCond .eq 14, 3) := by decide +kernel
theorem dL_passes_368 : decode cL_passes 368 = .ok (.lload 19, 2) := by decide +kernel
theorem dL_passes_370 : decode cL_passes 370 = .ok (.lconst 0, 1) := by decide +kernel
theorem dL_passes_371 : decode cL_passes 371 = .ok (.lcmp, 1) := by decide +kernel
theorem dL_passes_372 : decode cL_passes 372 = .ok (.ifCond .ne 7, 3) := by decide +kernel
theorem dL_passes_375 : decode cL_passes 375 = .ok (.iconst 1, 1) := by decide +kernel
theorem dL_passes_376 : decode cL_passes 376 = .ok (.goto 4, 3) := by decide +kernel
theorem dL_passes_379 : decode cL_passes 379 = .ok (.iconst 0, 1) := by decide +kernel
theorem dL_passes_380 : decode cL_passes 380 = .ok (.ireturn, 1) := by decide +kernel
theorem dL_passes_381 : decode cL_passes 381 = .ok (.iload 10, 2) := by decide +kernel
theorem dL_passes_383 : decode cL_passes 383 = .ok (.ifCond .le 72, 3) := by decide +kernel
theorem dL_passes_386 : decode cL_passes 386 = .ok (.iload 10, 2) := by decide +kernel
theorem dL_passes_388 : decode cL_passes 388 = .ok (.i2l, 1) := by decide +kernel
theorem dL_passes_389 : decode cL_passes 389 = .ok (.iload 14, 2) := by decide +kernel
theorem dL_passes_391 : decode cL_passes 391 = .ok (.i2l, 1) := by decide +kernel
theorem dL_passes_392 : decode cL_passes 392 = .ok (.lmul, 1) := by decide +kernel
theorem dL_passes_393 : decode cL_passes 393 = .ok (.ldc2_w 50, 3) := by decide +kernel
theorem dL_passes_396 : decode cL_passes 396 = .ok (.ldiv, 1) := by decide +kernel
theorem dL_passes_397 : decode cL_passes 397 = .ok (.iload 16, 2) := by decide +kernel
theorem dL_passes_399 : decode cL_passes 399 = .ok (.ifCond .eq 9, 3) := by decide +kernel
theorem dL_passes_402 : decode cL_passes 402 = .ok (.ldc2_w 52, 3) := by decide +kernel
theorem dL_passes_405 : decode cL_passes 405 = .ok (.goto 4, 3) := by decide +kernel
theorem dL_passes_408 : decode cL_passes 408 = .ok (.lconst 1, 1) := by decide +kernel
theorem dL_passes_409 : decode cL_passes 409 = .ok (.ldiv, 1) := by decide +kernel
theorem dL_passes_410 : decode cL_passes 410 = .ok (.iload_n 1, 1) := by decide +kernel
theorem dL_passes_411 : decode cL_passes 411 = .ok (.i2l, 1) := by decide +kernel
theorem dL_passes_412 : decode cL_passes 412 = .ok (.lmul, 1) := by decide +kernel
theorem dL_passes_413 : decode cL_passes 413 = .ok (.lstore 21, 2) := by decide +kernel
theorem dL_passes_415 : decode cL_passes 415 = .ok (.iload 18, 2) := by decide +kernel
theorem dL_passes_417 : decode cL_passes 417 = .ok (.ifCond .eq 36, 3) := by decide +kernel
theorem dL_passes_420 : decode cL_passes 420 = .ok (.lload 19, 2) := by decide +kernel
theorem dL_passes_422 : decode cL_passes 422 = .ok (.lload 21, 2) := by decide +kernel
theorem dL_passes_424 : decode cL_passes 424 = .ok (.lcmp, 1) := by decide +kernel
theorem dL_passes_425 : decode cL_passes 425 = .ok (.ifCond .lt 28, 3) := by decide +kernel
theorem dL_passes_428 : decode cL_passes 428 = .ok (.iload 15, 2) := by decide +kernel
theorem dL_passes_430 : decode cL_passes 430 = .ok (.bipush (-6), 2) := by decide +kernel
theorem dL_passes_432 : decode cL_passes 432 = .ok (.if_icmp .eq 9, 3) := by decide +kernel
theorem dL_passes_435 : decode cL_passes 435 = .ok (.iload 15, 2) := by decide +kernel
theorem dL_passes_437 : decode cL_passes 437 = .ok (.iload_n 1, 1) := by decide +kernel
theorem dL_passes_438 : decode cL_passes 438 = .ok (.if_icmp .lt 11, 3) := by decide +kernel
theorem dL_passes_441 : decode cL_passes 441 = .ok (.lload 19, 2) := by decide +kernel
theorem dL_passes_443 : decode cL_passes 443 = .ok (.lload 21, 2) := by decide +kernel
theorem dL_passes_445 : decode cL_passes 445 = .ok (.lcmp, 1) := by decide +kernel
theorem dL_passes_446 : decode cL_passes 446 = .ok (.ifCond .ne 7, 3) := by decide +kernel
theorem dL_passes_449 : decode cL_passes 449 = .ok (.iconst 1, 1) := by decide +kernel
theorem dL_passes_450 : decode cL_passes 450 = .ok (.goto 4, 3) := by decide +kernel
theorem dL_passes_453 : decode cL_passes 453 = .ok (.iconst 0, 1) := by decide +kernel
theorem dL_passes_454 : decode cL_passes 454 = .ok (.ireturn, 1) := by decide +kernel
theorem dL_passes_455 : decode cL_passes 455 = .ok (.iload 18, 2) := by decide +kernel
theorem dL_passes_457 : decode cL_passes 457 = .ok (.ifCond .eq 72, 3) := by decide +kernel
theorem dL_passes_460 : decode cL_passes 460 = .ok (.lload 19, 2) := by decide +kernel
theorem dL_passes_462 : decode cL_passes 462 = .ok (.aload_n 0, 1) := by decide +kernel
theorem dL_passes_463 : decode cL_passes 463 = .ok (.bipush 10, 2) := by decide +kernel
theorem dL_passes_465 : decode cL_passes 465 = .ok (.invokevirtual 8, 3) := by decide +kernel
theorem dL_passes_468 : decode cL_passes 468 = .ok (.i2l, 1) := by decide +kernel
theorem dL_passes_469 : decode cL_passes 469 = .ok (.iload_n 1, 1) := by decide +kernel
theorem dL_passes_470 : decode cL_passes 470 = .ok (.i2l, 1) := by decide +kernel
theorem dL_passes_471 : decode cL_passes 471 = .ok (.lmul, 1) := by decide +kernel
theorem dL_passes_472 : decode cL_passes 472 = .ok (.lcmp, 1) := by decide +kernel
theorem dL_passes_473 : decode cL_passes 473 = .ok (.ifCond .gt 56, 3) := by decide +kernel
theorem dL_passes_476 : decode cL_passes 476 = .ok (.aload_n 0, 1) := by decide +kernel
theorem dL_passes_477 : decode cL_passes 477 = .ok (.bipush 11, 2) := by decide +kernel
theorem dL_passes_479 : decode cL_passes 479 = .ok (.invokevirtual 8, 3) := by decide +kernel
theorem dL_passes_482 : decode cL_passes 482 = .ok (.ifCond .ne 22, 3) := by decide +kernel
theorem dL_passes_485 : decode cL_passes 485 = .ok (.lload 19, 2) := by decide +kernel
theorem dL_passes_487 : decode cL_passes 487 = .ok (.aload_n 0, 1) := by decide +kernel
theorem dL_passes_488 : decode cL_passes 488 = .ok (.bipush 10, 2) := by decide +kernel
theorem dL_passes_490 : decode cL_passes 490 = .ok (.invokevirtual 8, 3) := by decide +kernel
theorem dL_passes_493 : decode cL_passes 493 = .ok (.i2l, 1) := by decide +kernel
theorem dL_passes_494 : decode cL_passes 494 = .ok (.iload_n 1, 1) := by decide +kernel
theorem dL_passes_495 : decode cL_passes 495 = .ok (.i2l, 1) := by decide +kernel
theorem dL_passes_496 : decode cL_passes 496 = .ok (.lmul, 1) := by decide +kernel
theorem dL_passes_497 : decode cL_passes 497 = .ok (.lcmp, 1) := by decide +kernel
theorem dL_passes_498 : decode cL_passes 498 = .ok (.ifCond .ne 31, 3) := by decide +kernel
theorem dL_passes_501 : decode cL_passes 501 = .ok (.goto 24, 3) := by decide +kernel
theorem dL_passes_504 : decode cL_passes 504 = .ok (.lload 19, 2) := by decide +kernel
theorem dL_passes_506 : decode cL_passes 506 = .ok (.ldc2_w 48, 3) := by decide +kernel
theorem dL_passes_509 : decode cL_passes 509 = .ok (.lcmp, 1) := by decide +kernel
theorem dL_passes_510 : decode cL_passes 510 = .ok (.ifCond .gt 19, 3) := by decide +kernel
theorem dL_passes_513 : decode cL_passes 513 = .ok (.iload 13, 2) := by decide +kernel
theorem dL_passes_515 : decode cL_passes 515 = .ok (.ifCond .gt 10, 3) := by decide +kernel
theorem dL_passes_518 : decode cL_passes 518 = .ok (.lload 19, 2) := by decide +kernel
theorem dL_passes_520 : decode cL_passes 520 = .ok (.lconst 0, 1) := by decide +kernel
theorem dL_passes_521 : decode cL_passes 521 = .ok (.lcmp, 1) := by decide +kernel
theorem dL_passes_522 : decode cL_passes 522 = .ok (.ifCond .ne 7, 3) := by decide +kernel
theorem dL_passes_525 : decode cL_passes 525 = .ok (.iconst 1, 1) := by decide +kernel
theorem dL_passes_526 : decode cL_passes 526 = .ok (.goto 4, 3) := by decide +kernel
theorem dL_passes_529 : decode cL_passes 529 = .ok (.iconst 0, 1) := by decide +kernel
theorem dL_passes_530 : decode cL_passes 530 = .ok (.ireturn, 1) := by decide +kernel
theorem dL_isVisited_0 : decode cL_isVisited 0 = .ok (.aload_n 0, 1) := by decide +kernel
theorem dL_isVisited_1 : decode cL_isVisited 1 = .ok (.iload_n 1, 1) := by decide +kernel
theorem dL_isVisited_2 : decode cL_isVisited 2 = .ok (.invokevirtual 54, 3) := by decide +kernel
theorem dL_isVisited_5 : decode cL_isVisited 5 = .ok (.istore_n 2, 1) := by decide +kernel
theorem dL_isVisited_6 : decode cL_isVisited 6 = .ok (.aload_n 0, 1) := by decide +kernel
theorem dL_isVisited_7 : decode cL_isVisited 7 = .ok (.iload_n 1, 1) := by decide +kernel
theorem dL_isVisited_8 : decode cL_isVisited 8 = .ok (.bipush 9, 2) := by decide +kernel
theorem dL_isVisited_10 : decode cL_isVisited 10 = .ok (.invokevirtual 18, 3) := by decide +kernel
theorem dL_isVisited_13 : decode cL_isVisited 13 = .ok (.istore_n 3, 1) := by decide +kernel
theorem dL_isVisited_14 : decode cL_isVisited 14 = .ok (.aload_n 0, 1) := by decide +kernel
theorem dL_isVisited_15 : decode cL_isVisited 15 = .ok (.bipush 7, 2) := by decide +kernel
theorem dL_isVisited_17 : decode cL_isVisited 17 = .ok (.invokevirtual 8, 3) := by decide +kernel
theorem dL_isVisited_20 : decode cL_isVisited 20 = .ok (.istore 4, 2) := by decide +kernel
theorem dL_isVisited_22 : decode cL_isVisited 22 = .ok (.aload_n 0, 1) := by decide +kernel
theorem dL_isVisited_23 : decode cL_isVisited 23 = .ok (.iload_n 1, 1) := by decide +kernel
theorem dL_isVisited_24 : decode cL_isVisited 24 = .ok (.bipush 7, 2) := by decide +kernel
theorem dL_isVisited_26 : decode cL_isVisited 26 = .ok (.invokevirtual 18, 3) := by decide +kernel
theorem dL_isVisited_29 : decode cL_isVisited 29 = .ok (.istore 5, 2) := by decide +kernel
theorem dL_isVisited_31 : decode cL_isVisited 31 = .ok (.aload_n 0, 1) := by decide +kernel
theorem dL_isVisited_32 : decode cL_isVisited 32 = .ok (.bipush 8, 2) := by decide +kernel
theorem dL_isVisited_34 : decode cL_isVisited 34 = .ok (.invokevirtual 8, 3) := by decide +kernel
theorem dL_isVisited_37 : decode cL_isVisited 37 = .ok (.istore 6, 2) := by decide +kernel
theorem dL_isVisited_39 : decode cL_isVisited 39 = .ok (.aload_n 0, 1) := by decide +kernel
theorem dL_isVisited_40 : decode cL_isVisited 40 = .ok (.iload_n 1, 1) := by decide +kernel
theorem dL_isVisited_41 : decode cL_isVisited 41 = .ok (.bipush 8, 2) := by decide +kernel
theorem dL_isVisited_43 : decode cL_isVisited 43 = .ok (.invokevirtual 18, 3) := by decide +kernel
theorem dL_isVisited_46 : decode cL_isVisited 46 = .ok (.iconst 1, 1) := by decide +kernel
theorem dL_isVisited_47 : decode cL_isVisited 47 = .ok (.if_icmp .ne 7, 3) := by decide +kernel
theorem dL_isVisited_50 : decode cL_isVisited 50 = .ok (.iconst 1, 1) := by decide +kernel
theorem dL_isVisited_51 : decode cL_isVisited 51 = .ok (.goto 4, 3) := by decide +kernel
theorem dL_isVisited_54 : decode cL_isVisited 54 = .ok (.iconst 0, 1) := by decide +kernel
theorem dL_isVisited_55 : decode cL_isVisited 55 = .ok (.istore 7, 2) := by decide +kernel
theorem dL_isVisited_57 : decode cL_isVisited 57 = .ok (.aload_n 0, 1) := by decide +kernel
theorem dL_isVisited_58 : decode cL_isVisited 58 = .ok (.iload_n 1, 1) := by decide +kernel
theorem dL_isVisited_59 : decode cL_isVisited 59 = .ok (.bipush 11, 2) := by decide +kernel
theorem dL_isVisited_61 : decode cL_isVisited 61 = .ok (.invokevirtual 18, 3) := by decide +kernel
theorem dL_isVisited_64 : decode cL_isVisited 64 = .ok (.istore 8, 2) := by decide +kernel
theorem dL_isVisited_66 : decode cL_isVisited 66 = .ok (.aload_n 0, 1) := by decide +kernel
theorem dL_isVisited_67 : decode cL_isVisited 67 = .ok (.iload_n 1, 1) := by decide +kernel
theorem dL_isVisited_68 : decode cL_isVisited 68 = .ok (.invokevirtual 28, 3) := by decide +kernel
theorem dL_isVisited_71 : decode cL_isVisited 71 = .ok (.lstore 9, 2) := by decide +kernel
theorem dL_isVisited_73 : decode cL_isVisited 73 = .ok (.aload_n 0, 1) := by decide +kernel
theorem dL_isVisited_74 : decode cL_isVisited 74 = .ok (.iload_n 1, 1) := by decide +kernel
theorem dL_isVisited_75 : decode cL_isVisited 75 = .ok (.invokevirtual 57, 3) := by decide +kernel
theorem dL_isVisited_78 : decode cL_isVisited 78 = .ok (.iload_n 2, 1) := by decide +kernel
theorem dL_isVisited_79 : decode cL_isVisited 79 = .ok (.if_icmp .ne 99, 3) := by decide +kernel
theorem dL_isVisited_82 : decode cL_isVisited 82 = .ok (.aload_n 0, 1) := by decide +kernel
theorem dL_isVisited_83 : decode cL_isVisited 83 = .ok (.iload_n 1, 1) := by decide +kernel
theorem dL_isVisited_84 : decode cL_isVisited 84 = .ok (.bipush 9, 2) := by decide +kernel
theorem dL_isVisited_86 : decode cL_isVisited 86 = .ok (.invokevirtual 18, 3) := by decide +kernel
theorem dL_isVisited_89 : decode cL_isVisited 89 = .ok (.iload_n 3, 1) := by decide +kernel
theorem dL_isVisited_90 : decode cL_isVisited 90 = .ok (.iload_n 2, 1) := by decide +kernel
theorem dL_isVisited_91 : decode cL_isVisited 91 = .ok (.iadd, 1) := by decide +kernel
theorem dL_isVisited_92 : decode cL_isVisited 92 = .ok (.if_icmp .ne 86, 3) := by decide +kernel
theorem dL_isVisited_95 : decode cL_isVisited 95 = .ok (.aload_n 0, 1) := by decide +kernel
theorem dL_isVisited_96 : decode cL_isVisited 96 = .ok (.bipush 7, 2) := by decide +kernel
theorem dL_isVisited_98 : decode cL_isVisited 98 = .ok (.invokevirtual 8, 3) := by decide +kernel
theorem dL_isVisited_101 : decode cL_isVisited 101 = .ok (.iload 4, 2) := by decide +kernel
theorem dL_isVisited_103 : decode cL_isVisited 103 = .ok (.iload_n 2, 1) := by decide +kernel
theorem dL_isVisited_104 : decode cL_isVisited 104 = .ok (.iadd, 1) := by decide +kernel
theorem dL_isVisited_105 : decode cL_isVisited 105 = .ok (.if_icmp .ne 73, 3) := by decide +kernel
theorem dL_isVisited_108 : decode cL_isVisited 108 = .ok (.aload_n 0, 1) := by decide +kernel
theorem dL_isVisited_109 : decode cL_isVisited 109 = .ok (.iload_n 1, 1) := by decide +kernel
theorem dL_isVisited_110 : decode cL_isVisited 110 = .ok (.bipush 8, 2) := by decide +kernel
theorem dL_isVisited_112 : decode cL_isVisited 112 = .ok (.invokevirtual 18, 3) := by decide +kernel
theorem dL_isVisited_115 : decode cL_isVisited 115 = .ok (.ifCond .ne 63, 3) := by decide +kernel
theorem dL_isVisited_118 : decode cL_isVisited 118 = .ok (.aload_n 0, 1) := by decide +kernel
theorem dL_isVisited_119 : decode cL_isVisited 119 = .ok (.iload_n 1, 1) := by decide +kernel
theorem dL_isVisited_120 : decode cL_isVisited 120 = .ok (.iconst 3, 1) := by decide +kernel
theorem dL_isVisited_121 : decode cL_isVisited 121 = .ok (.invokevirtual 18, 3) := by decide +kernel
theorem dL_isVisited_124 : decode cL_isVisited 124 = .ok (.bipush 100, 2) := by decide +kernel
theorem dL_isVisited_126 : decode cL_isVisited 126 = .ok (.if_icmp .ne 52, 3) := by decide +kernel
theorem dL_isVisited_129 : decode cL_isVisited 129 = .ok (.aload_n 0, 1) := by decide +kernel
theorem dL_isVisited_130 : decode cL_isVisited 130 = .ok (.iload_n 1, 1) := by decide +kernel
theorem dL_isVisited_131 : decode cL_isVisited 131 = .ok (.bipush 11, 2) := by decide +kernel
theorem dL_isVisited_133 : decode cL_isVisited 133 = .ok (.invokevirtual 18, 3) := by decide +kernel
theorem dL_isVisited_136 : decode cL_isVisited 136 = .ok (.iload 8, 2) := by decide +kernel
theorem dL_isVisited_138 : decode cL_isVisited 138 = .ok (.iconst 1, 1) := by decide +kernel
theorem dL_isVisited_139 : decode cL_isVisited 139 = .ok (.iadd, 1) := by decide +kernel
theorem dL_isVisited_140 : decode cL_isVisited 140 = .ok (.if_icmp .ne 38, 3) := by decide +kernel
theorem dL_isVisited_143 : decode cL_isVisited 143 = .ok (.aload_n 0, 1) := by decide +kernel
theorem dL_isVisited_144 : decode cL_isVisited 144 = .ok (.iload_n 1, 1) := by decide +kernel
theorem dL_isVisited_145 : decode cL_isVisited 145 = .ok (.invokevirtual 28, 3) := by decide +kernel
theorem dL_isVisited_148 : decode cL_isVisited 148 = .ok (.lload 9, 2) := by decide +kernel
theorem dL_isVisited_150 : decode cL_isVisited 150 = .ok (.lcmp, 1) := by decide +kernel
theorem dL_isVisited_151 : decode cL_isVisited 151 = .ok (.ifCond .ne 27, 3) := by decide +kernel
theorem dL_isVisited_154 : decode cL_isVisited 154 = .ok (.aload_n 0, 1) := by decide +kernel
theorem dL_isVisited_155 : decode cL_isVisited 155 = .ok (.iload_n 1, 1) := by decide +kernel
theorem dL_isVisited_156 : decode cL_isVisited 156 = .ok (.invokevirtual 54, 3) := by decide +kernel
theorem dL_isVisited_159 : decode cL_isVisited 159 = .ok (.ifCond .ne 19, 3) := by decide +kernel
theorem dL_isVisited_162 : decode cL_isVisited 162 = .ok (.aload_n 0, 1) := by decide +kernel
theorem dL_isVisited_163 : decode cL_isVisited 163 = .ok (.iload_n 1, 1) := by decide +kernel
theorem dL_isVisited_164 : decode cL_isVisited 164 = .ok (.bipush 10, 2) := by decide +kernel
theorem dL_isVisited_166 : decode cL_isVisited 166 = .ok (.invokevirtual 18, 3) := by decide +kernel
theorem dL_isVisited_169 : decode cL_isVisited 169 = .ok (.aload_n 0, 1) := by decide +kernel
theorem dL_isVisited_170 : decode cL_isVisited 170 = .ok (.bipush 12, 2) := by decide +kernel
theorem dL_isVisited_172 : decode cL_isVisited 172 = .ok (.invokevirtual 8, 3) := by decide +kernel
theorem dL_isVisited_175 : decode cL_isVisited 175 = .ok (.if_icmp .eq 5, 3) := by decide +kernel
theorem dL_isVisited_178 : decode cL_isVisited 178 = .ok (.iconst 0, 1) := by decide +kernel
theorem dL_isVisited_179 : decode cL_isVisited 179 = .ok (.ireturn, 1) := by decide +kernel
theorem dL_isVisited_180 : decode cL_isVisited 180 = .ok (.iload 7, 2) := by decide +kernel
theorem dL_isVisited_182 : decode cL_isVisited 182 = .ok (.ifCond .eq 38, 3) := by decide +kernel
theorem dL_isVisited_185 : decode cL_isVisited 185 = .ok (.aload_n 0, 1) := by decide +kernel
theorem dL_isVisited_186 : decode cL_isVisited 186 = .ok (.iload_n 1, 1) := by decide +kernel
theorem dL_isVisited_187 : decode cL_isVisited 187 = .ok (.bipush 7, 2) := by decide +kernel
theorem dL_isVisited_189 : decode cL_isVisited 189 = .ok (.invokevirtual 18, 3) := by decide +kernel
theorem dL_isVisited_192 : decode cL_isVisited 192 = .ok (.iload 6, 2) := by decide +kernel
theorem dL_isVisited_194 : decode cL_isVisited 194 = .ok (.iconst 1, 1) := by decide +kernel
theorem dL_isVisited_195 : decode cL_isVisited 195 = .ok (.iadd, 1) := by decide +kernel
theorem dL_isVisited_196 : decode cL_isVisited 196 = .ok (.if_icmp .ne 20, 3) := by decide +kernel
theorem dL_isVisited_199 : decode cL_isVisited 199 = .ok (.aload_n 0, 1) := by decide +kernel
theorem dL_isVisited_200 : decode cL_isVisited 200 = .ok (.bipush 8, 2) := by decide +kernel
theorem dL_isVisited_202 : decode cL_isVisited 202 = .ok (.invokevirtual 8, 3) := by decide +kernel
theorem dL_isVisited_205 : decode cL_isVisited 205 = .ok (.iload 6, 2) := by decide +kernel
theorem dL_isVisited_207 : decode cL_isVisited 207 = .ok (.iconst 1, 1) := by decide +kernel
theorem dL_isVisited_208 : decode cL_isVisited 208 = .ok (.iadd, 1) := by decide +kernel
theorem dL_isVisited_209 : decode cL_isVisited 209 = .ok (.if_icmp .ne 7, 3) := by decide +kernel
theorem dL_isVisited_212 : decode cL_isVisited 212 = .ok (.iconst 1, 1) := by decide +kernel
theorem dL_isVisited_213 : decode cL_isVisited 213 = .ok (.goto 35, 3) := by decide +kernel
theorem dL_isVisited_216 : decode cL_isVisited 216 = .ok (.iconst 0, 1) := by decide +kernel
theorem dL_isVisited_217 : decode cL_isVisited 217 = .ok (.goto 31, 3) := by decide +kernel
theorem dL_isVisited_220 : decode cL_isVisited 220 = .ok (.aload_n 0, 1) := by decide +kernel
theorem dL_isVisited_221 : decode cL_isVisited 221 = .ok (.iload_n 1, 1) := by decide +kernel
theorem dL_isVisited_222 : decode cL_isVisited 222 = .ok (.bipush 7, 2) := by decide +kernel
theorem dL_isVisited_224 : decode cL_isVisited 224 = .ok (.invokevirtual 18, 3) := by decide +kernel
theorem dL_isVisited_227 : decode cL_isVisited 227 = .ok (.iload 5, 2) := by decide +kernel
theorem dL_isVisited_229 : decode cL_isVisited 229 = .ok (.if_icmp .ne 18, 3) := by decide +kernel
theorem dL_isVisited_232 : decode cL_isVisited 232 = .ok (.aload_n 0, 1) := by decide +kernel
theorem dL_isVisited_233 : decode cL_isVisited 233 = .ok (.bipush 8, 2) := by decide +kernel
theorem dL_isVisited_235 : decode cL_isVisited 235 = .ok (.invokevirtual 8, 3) := by decide +kernel
theorem dL_isVisited_238 : decode cL_isVisited 238 = .ok (.iload 6, 2) := by decide +kernel
theorem dL_isVisited_240 : decode cL_isVisited 240 = .ok (.if_icmp .ne 7, 3) := by decide +kernel
theorem dL_isVisited_243 : decode cL_isVisited 243 = .ok (.iconst 1, 1) := by decide +kernel
theorem dL_isVisited_244 : decode cL_isVisited 244 = .ok (.goto 4, 3) := by decide +kernel
theorem dL_isVisited_247 : decode cL_isVisited 247 = .ok (.iconst 0, 1) := by decide +kernel
theorem dL_isVisited_248 : decode cL_isVisited 248 = .ok (.ireturn, 1) := by decide +kernel
theorem dL_isWritten_0 : decode cL_isWritten 0 = .ok (.aload_n 0, 1) := by decide +kernel
theorem dL_isWritten_1 : decode cL_isWritten 1 = .ok (.iload_n 1, 1) := by decide +kernel
theorem dL_isWritten_2 : decode cL_isWritten 2 = .ok (.invokevirtual 60, 3) := by decide +kernel
theorem dL_isWritten_5 : decode cL_isWritten 5 = .ok (.istore_n 2, 1) := by decide +kernel
theorem dL_isWritten_6 : decode cL_isWritten 6 = .ok (.iconst 1, 1) := by decide +kernel
theorem dL_isWritten_7 : decode cL_isWritten 7 = .ok (.istore_n 3, 1) := by decide +kernel
theorem dL_isWritten_8 : decode cL_isWritten 8 = .ok (.aload_n 0, 1) := by decide +kernel
theorem dL_isWritten_9 : decode cL_isWritten 9 = .ok (.iconst 0, 1) := by decide +kernel
theorem dL_isWritten_10 : decode cL_isWritten 10 = .ok (.invokevirtual 63, 3) := by decide +kernel
theorem dL_isWritten_13 : decode cL_isWritten 13 = .ok (.bipush 100, 2) := by decide +kernel
theorem dL_isWritten_15 : decode cL_isWritten 15 = .ok (.if_icmp .ne 32, 3) := by decide +kernel
theorem dL_isWritten_18 : decode cL_isWritten 18 = .ok (.aload_n 0, 1) := by decide +kernel
theorem dL_isWritten_19 : decode cL_isWritten 19 = .ok (.iload_n 2, 1) := by decide +kernel
theorem dL_isWritten_20 : decode cL_isWritten 20 = .ok (.invokevirtual 63, 3) := by decide +kernel
theorem dL_isWritten_23 : decode cL_isWritten 23 = .ok (.iconst (-1), 1) := by decide +kernel
theorem dL_isWritten_24 : decode cL_isWritten 24 = .ok (.if_icmp .ne 23, 3) := by decide +kernel
theorem dL_isWritten_27 : decode cL_isWritten 27 = .ok (.aload_n 0, 1) := by decide +kernel
theorem dL_isWritten_28 : decode cL_isWritten 28 = .ok (.iconst (-1), 1) := by decide +kernel
theorem dL_isWritten_29 : decode cL_isWritten 29 = .ok (.invokevirtual 63, 3) := by decide +kernel
theorem dL_isWritten_32 : decode cL_isWritten 32 = .ok (.iconst (-1), 1) := by decide +kernel
theorem dL_isWritten_33 : decode cL_isWritten 33 = .ok (.if_icmp .ne 14, 3) := by decide +kernel
theorem dL_isWritten_36 : decode cL_isWritten 36 = .ok (.aload_n 0, 1) := by decide +kernel
theorem dL_isWritten_37 : decode cL_isWritten 37 = .ok (.invokevirtual 66, 3) := by decide +kernel
theorem dL_isWritten_40 : decode cL_isWritten 40 = .ok (.ifCond .ne 7, 3) := by decide +kernel
theorem dL_isWritten_43 : decode cL_isWritten 43 = .ok (.iconst 1, 1) := by decide +kernel
theorem dL_isWritten_44 : decode cL_isWritten 44 = .ok (.goto 4, 3) := by decide +kernel
theorem dL_isWritten_47 : decode cL_isWritten 47 = .ok (.iconst 0, 1) := by decide +kernel
theorem dL_isWritten_48 : decode cL_isWritten 48 = .ok (.istore 4, 2) := by decide +kernel
theorem dL_isWritten_50 : decode cL_isWritten 50 = .ok (.iconst 0, 1) := by decide +kernel
theorem dL_isWritten_51 : decode cL_isWritten 51 = .ok (.istore 5, 2) := by decide +kernel
theorem dL_isWritten_53 : decode cL_isWritten 53 = .ok (.iload 5, 2) := by decide +kernel
theorem dL_isWritten_55 : decode cL_isWritten 55 = .ok (.iconst 3, 1) := by decide +kernel
theorem dL_isWritten_56 : decode cL_isWritten 56 = .ok (.if_icmp .ge 149, 3) := by decide +kernel
theorem dL_isWritten_59 : decode cL_isWritten 59 = .ok (.iconst 0, 1) := by decide +kernel
theorem dL_isWritten_60 : decode cL_isWritten 60 = .ok (.istore 6, 2) := by decide +kernel
theorem dL_isWritten_62 : decode cL_isWritten 62 = .ok (.iconst 0, 1) := by decide +kernel
theorem dL_isWritten_63 : decode cL_isWritten 63 = .ok (.istore 7, 2) := by decide +kernel
theorem dL_isWritten_65 : decode cL_isWritten 65 = .ok (.aload_n 0, 1) := by decide +kernel
theorem dL_isWritten_66 : decode cL_isWritten 66 = .ok (.iload_n 3, 1) := by decide +kernel
theorem dL_isWritten_67 : decode cL_isWritten 67 = .ok (.invokevirtual 63, 3) := by decide +kernel
theorem dL_isWritten_70 : decode cL_isWritten 70 = .ok (.bipush 48, 2) := by decide +kernel
theorem dL_isWritten_72 : decode cL_isWritten 72 = .ok (.if_icmp .lt 45, 3) := by decide +kernel
theorem dL_isWritten_75 : decode cL_isWritten 75 = .ok (.aload_n 0, 1) := by decide +kernel
theorem dL_isWritten_76 : decode cL_isWritten 76 = .ok (.iload_n 3, 1) := by decide +kernel
theorem dL_isWritten_77 : decode cL_isWritten 77 = .ok (.invokevirtual 63, 3) := by decide +kernel
theorem dL_isWritten_80 : decode cL_isWritten 80 = .ok (.bipush 57, 2) := by decide +kernel
theorem dL_isWritten_82 : decode cL_isWritten 82 = .ok (.if_icmp .gt 35, 3) := by decide +kernel
theorem dL_isWritten_85 : decode cL_isWritten 85 = .ok (.iload 7, 2) := by decide +kernel
theorem dL_isWritten_87 : decode cL_isWritten 87 = .ok (.bipush 9, 2) := by decide +kernel
theorem dL_isWritten_89 : decode cL_isWritten 89 = .ok (.if_icmp .ge 28, 3) := by decide +kernel
theorem dL_isWritten_92 : decode cL_isWritten 92 = .ok (.bipush 10, 2) := by decide +kernel
theorem dL_isWritten_94 : decode cL_isWritten 94 = .ok (.iload 6, 2) := by decide +kernel
theorem dL_isWritten_96 : decode cL_isWritten 96 = .ok (.imul, 1) := by decide +kernel
theorem dL_isWritten_97 : decode cL_isWritten 97 = .ok (.aload_n 0, 1) := by decide +kernel
theorem dL_isWritten_98 : decode cL_isWritten 98 = .ok (.iload_n 3, 1) := by decide +kernel
theorem dL_isWritten_99 : decode cL_isWritten 99 = .ok (.invokevirtual 63, 3) := by decide +kernel
theorem dL_isWritten_102 : decode cL_isWritten 102 = .ok (.iadd, 1) := by decide +kernel
theorem dL_isWritten_103 : decode cL_isWritten 103 = .ok (.bipush 48, 2) := by decide +kernel
theorem dL_isWritten_105 : decode cL_isWritten 105 = .ok (.isub, 1) := by decide +kernel
theorem dL_isWritten_106 : decode cL_isWritten 106 = .ok (.istore 6, 2) := by decide +kernel
theorem dL_isWritten_108 : decode cL_isWritten 108 = .ok (.iinc 3 1, 3) := by decide +kernel
theorem dL_isWritten_111 : decode cL_isWritten 111 = .ok (.iinc 7 1, 3) := by decide +kernel
theorem dL_isWritten_114 : decode cL_isWritten 114 = .ok (.goto (-49), 3) := by decide +kernel
theorem dL_isWritten_117 : decode cL_isWritten 117 = .ok (.iload 4, 2) := by decide +kernel
theorem dL_isWritten_119 : decode cL_isWritten 119 = .ok (.ifCond .eq 63, 3) := by decide +kernel
theorem dL_isWritten_122 : decode cL_isWritten 122 = .ok (.iload 7, 2) := by decide +kernel
theorem dL_isWritten_124 : decode cL_isWritten 124 = .ok (.ifCond .le 58, 3) := by decide +kernel
theorem dL_isWritten_127 : decode cL_isWritten 127 = .ok (.iload 6, 2) := by decide +kernel
theorem dL_isWritten_129 : decode cL_isWritten 129 = .ok (.aload_n 0, 1) := by decide +kernel
theorem dL_isWritten_130 : decode cL_isWritten 130 = .ok (.iload_n 1, 1) := by decide +kernel
theorem dL_isWritten_131 : decode cL_isWritten 131 = .ok (.iload 5, 2) := by decide +kernel
theorem dL_isWritten_133 : decode cL_isWritten 133 = .ok (.iconst 2, 1) := by decide +kernel
theorem dL_isWritten_134 : decode cL_isWritten 134 = .ok (.if_icmp .ne 8, 3) := by decide +kernel
theorem dL_isWritten_137 : decode cL_isWritten 137 = .ok (.bipush 7, 2) := by decide +kernel
theorem dL_isWritten_139 : decode cL_isWritten 139 = .ok (.goto 7, 3) := by decide +kernel
theorem dL_isWritten_142 : decode cL_isWritten 142 = .ok (.iconst 4, 1) := by decide +kernel
theorem dL_isWritten_143 : decode cL_isWritten 143 = .ok (.iload 5, 2) := by decide +kernel
theorem dL_isWritten_145 : decode cL_isWritten 145 = .ok (.iadd, 1) := by decide +kernel
theorem dL_isWritten_146 : decode cL_isWritten 146 = .ok (.invokevirtual 18, 3) := by decide +kernel
theorem dL_isWritten_149 : decode cL_isWritten 149 = .ok (.if_icmp .ne 33, 3) := by decide +kernel
theorem dL_isWritten_152 : decode cL_isWritten 152 = .ok (.iload 5, 2) := by decide +kernel
theorem dL_isWritten_154 : decode cL_isWritten 154 = .ok (.iconst 2, 1) := by decide +kernel
theorem dL_isWritten_155 : decode cL_isWritten 155 = .ok (.if_icmp .eq 23, 3) := by decide +kernel
theorem dL_isWritten_158 : decode cL_isWritten 158 = .ok (.aload_n 0, 1) := by decide +kernel
theorem dL_isWritten_159 : decode cL_isWritten 159 = .ok (.iload_n 3, 1) := by decide +kernel
theorem dL_isWritten_160 : decode cL_isWritten 160 = .ok (.invokevirtual 63, 3) := by decide +kernel
theorem dL_isWritten_163 : decode cL_isWritten 163 = .ok (.iload 5, 2) := by decide +kernel
theorem dL_isWritten_165 : decode cL_isWritten 165 = .ok (.ifCond .ne 8, 3) := by decide +kernel
theorem dL_isWritten_168 : decode cL_isWritten 168 = .ok (.bipush 110, 2) := by decide +kernel
theorem dL_isWritten_170 : decode cL_isWritten 170 = .ok (.goto 5, 3) := by decide +kernel
theorem dL_isWritten_173 : decode cL_isWritten 173 = .ok (.bipush 35, 2) := by decide +kernel
theorem dL_isWritten_175 : decode cL_isWritten 175 = .ok (.if_icmp .ne 7, 3) := by decide +kernel
theorem dL_isWritten_178 : decode cL_isWritten 178 = .ok (.iconst 1, 1) := by decide +kernel
theorem dL_isWritten_179 : decode cL_isWritten 179 = .ok (.goto 4, 3) := by decide +kernel
theorem dL_isWritten_182 : decode cL_isWritten 182 = .ok (.iconst 0, 1) := by decide +kernel
theorem dL_isWritten_183 : decode cL_isWritten 183 = .ok (.istore 4, 2) := by decide +kernel
theorem dL_isWritten_185 : decode cL_isWritten 185 = .ok (.iload_n 3, 1) := by decide +kernel
theorem dL_isWritten_186 : decode cL_isWritten 186 = .ok (.iload 5, 2) := by decide +kernel
theorem dL_isWritten_188 : decode cL_isWritten 188 = .ok (.iconst 2, 1) := by decide +kernel
theorem dL_isWritten_189 : decode cL_isWritten 189 = .ok (.if_icmp .ne 7, 3) := by decide +kernel
theorem dL_isWritten_192 : decode cL_isWritten 192 = .ok (.iconst 0, 1) := by decide +kernel
theorem dL_isWritten_193 : decode cL_isWritten 193 = .ok (.goto 4, 3) := by decide +kernel
theorem dL_isWritten_196 : decode cL_isWritten 196 = .ok (.iconst 1, 1) := by decide +kernel
theorem dL_isWritten_197 : decode cL_isWritten 197 = .ok (.iadd, 1) := by decide +kernel
theorem dL_isWritten_198 : decode cL_isWritten 198 = .ok (.istore_n 3, 1) := by decide +kernel
theorem dL_isWritten_199 : decode cL_isWritten 199 = .ok (.iinc 5 1, 3) := by decide +kernel
theorem dL_isWritten_202 : decode cL_isWritten 202 = .ok (.goto (-149), 3) := by decide +kernel
theorem dL_isWritten_205 : decode cL_isWritten 205 = .ok (.aload_n 0, 1) := by decide +kernel
theorem dL_isWritten_206 : decode cL_isWritten 206 = .ok (.iload_n 1, 1) := by decide +kernel
theorem dL_isWritten_207 : decode cL_isWritten 207 = .ok (.bipush 8, 2) := by decide +kernel
theorem dL_isWritten_209 : decode cL_isWritten 209 = .ok (.invokevirtual 18, 3) := by decide +kernel
theorem dL_isWritten_212 : decode cL_isWritten 212 = .ok (.iconst 1, 1) := by decide +kernel
theorem dL_isWritten_213 : decode cL_isWritten 213 = .ok (.if_icmp .ne 7, 3) := by decide +kernel
theorem dL_isWritten_216 : decode cL_isWritten 216 = .ok (.iconst 1, 1) := by decide +kernel
theorem dL_isWritten_217 : decode cL_isWritten 217 = .ok (.goto 4, 3) := by decide +kernel
theorem dL_isWritten_220 : decode cL_isWritten 220 = .ok (.iconst 0, 1) := by decide +kernel
theorem dL_isWritten_221 : decode cL_isWritten 221 = .ok (.istore 5, 2) := by decide +kernel
theorem dL_isWritten_223 : decode cL_isWritten 223 = .ok (.iload 4, 2) := by decide +kernel
theorem dL_isWritten_225 : decode cL_isWritten 225 = .ok (.ifCond .eq 45, 3) := by decide +kernel
theorem dL_isWritten_228 : decode cL_isWritten 228 = .ok (.iload 5, 2) := by decide +kernel
theorem dL_isWritten_230 : decode cL_isWritten 230 = .ok (.ifCond .eq 23, 3) := by decide +kernel
theorem dL_isWritten_233 : decode cL_isWritten 233 = .ok (.aload_n 0, 1) := by decide +kernel
theorem dL_isWritten_234 : decode cL_isWritten 234 = .ok (.iload_n 3, 1) := by decide +kernel
theorem dL_isWritten_235 : decode cL_isWritten 235 = .ok (.invokevirtual 63, 3) := by decide +kernel
theorem dL_isWritten_238 : decode cL_isWritten 238 = .ok (.bipush 33, 2) := by decide +kernel
theorem dL_isWritten_240 : decode cL_isWritten 240 = .ok (.if_icmp .ne 30, 3) := by decide +kernel
theorem dL_isWritten_243 : decode cL_isWritten 243 = .ok (.iload_n 3, 1) := by decide +kernel
theorem dL_isWritten_244 : decode cL_isWritten 244 = .ok (.iload_n 2, 1) := by decide +kernel
theorem dL_isWritten_245 : decode cL_isWritten 245 = .ok (.iconst 1, 1) := by decide +kernel
theorem dL_isWritten_246 : decode cL_isWritten 246 = .ok (.isub, 1) := by decide +kernel
theorem dL_isWritten_247 : decode cL_isWritten 247 = .ok (.if_icmp .ne 23, 3) := by decide +kernel
theorem dL_isWritten_250 : decode cL_isWritten 250 = .ok (.goto 8, 3) := by decide +kernel
theorem dL_isWritten_253 : decode cL_isWritten 253 = .ok (.iload_n 3, 1) := by decide +kernel
theorem dL_isWritten_254 : decode cL_isWritten 254 = .ok (.iload_n 2, 1) := by decide +kernel
theorem dL_isWritten_255 : decode cL_isWritten 255 = .ok (.if_icmp .ne 15, 3) := by decide +kernel
theorem dL_isWritten_258 : decode cL_isWritten 258 = .ok (.aload_n 0, 1) := by decide +kernel
theorem dL_isWritten_259 : decode cL_isWritten 259 = .ok (.invokevirtual 69, 3) := by decide +kernel
theorem dL_isWritten_262 : decode cL_isWritten 262 = .ok (.iload_n 2, 1) := by decide +kernel
theorem dL_isWritten_263 : decode cL_isWritten 263 = .ok (.if_icmp .ne 7, 3) := by decide +kernel
theorem dL_isWritten_266 : decode cL_isWritten 266 = .ok (.iconst 1, 1) := by decide +kernel
theorem dL_isWritten_267 : decode cL_isWritten 267 = .ok (.goto 4, 3) := by decide +kernel
theorem dL_isWritten_270 : decode cL_isWritten 270 = .ok (.iconst 0, 1) := by decide +kernel
theorem dL_isWritten_271 : decode cL_isWritten 271 = .ok (.ireturn, 1) := by decide +kernel
theorem dL_does_0 : decode cL_does 0 = .ok (.aload_n 0, 1) := by decide +kernel
theorem dL_does_1 : decode cL_does 1 = .ok (.iconst 2, 1) := by decide +kernel
theorem dL_does_2 : decode cL_does 2 = .ok (.invokevirtual 8, 3) := by decide +kernel
theorem dL_does_5 : decode cL_does 5 = .ok (.istore_n 3, 1) := by decide +kernel
theorem dL_does_6 : decode cL_does 6 = .ok (.iload_n 3, 1) := by decide +kernel
theorem dL_does_7 : decode cL_does 7 = .ok (.ifCond .ne 7, 3) := by decide +kernel
theorem dL_does_10 : decode cL_does 10 = .ok (.iconst 0, 1) := by decide +kernel
theorem dL_does_11 : decode cL_does 11 = .ok (.goto 10, 3) := by decide +kernel
theorem dL_does_14 : decode cL_does 14 = .ok (.iload_n 1, 1) := by decide +kernel
theorem dL_does_15 : decode cL_does 15 = .ok (.iconst 4, 1) := by decide +kernel
theorem dL_does_16 : decode cL_does 16 = .ok (.ishr, 1) := by decide +kernel
theorem dL_does_17 : decode cL_does 17 = .ok (.iload_n 3, 1) := by decide +kernel
theorem dL_does_18 : decode cL_does 18 = .ok (.invokestatic 72, 3) := by decide +kernel
theorem dL_does_21 : decode cL_does 21 = .ok (.istore 4, 2) := by decide +kernel
theorem dL_does_23 : decode cL_does 23 = .ok (.iload_n 1, 1) := by decide +kernel
theorem dL_does_24 : decode cL_does 24 = .ok (.bipush 18, 2) := by decide +kernel
theorem dL_does_26 : decode cL_does 26 = .ok (.invokestatic 72, 3) := by decide +kernel
theorem dL_does_29 : decode cL_does 29 = .ok (.tableswitch 644 0 11 #[63, 63, 157, 157, 270, 270, 270, 381, 478, 478, 506, 616], 63) := by decide +kernel
theorem dL_does_92 : decode cL_does 92 = .ok (.aload_n 0, 1) := by decide +kernel
theorem dL_does_93 : decode cL_does 93 = .ok (.bipush 8, 2) := by decide +kernel
theorem dL_does_95 : decode cL_does 95 = .ok (.invokevirtual 8, 3) := by decide +kernel
theorem dL_does_98 : decode cL_does 98 = .ok (.istore 5, 2) := by decide +kernel
theorem dL_does_100 : decode cL_does 100 = .ok (.aload_n 0, 1) := by decide +kernel
theorem dL_does_101 : decode cL_does 101 = .ok (.iload 4, 2) := by decide +kernel
theorem dL_does_103 : decode cL_does 103 = .ok (.invokevirtual 77, 3) := by decide +kernel
theorem dL_does_106 : decode cL_does 106 = .ok (.istore 6, 2) := by decide +kernel
theorem dL_does_108 : decode cL_does 108 = .ok (.iload_n 3, 1) := by decide +kernel
theorem dL_does_109 : decode cL_does 109 = .ok (.bipush 7, 2) := by decide +kernel
theorem dL_does_111 : decode cL_does 111 = .ok (.if_icmp .ne 18, 3) := by decide +kernel
theorem dL_does_114 : decode cL_does 114 = .ok (.iload 6, 2) := by decide +kernel
theorem dL_does_116 : decode cL_does 116 = .ok (.bipush (-4), 2) := by decide +kernel
theorem dL_does_118 : decode cL_does 118 = .ok (.if_icmp .ne 7, 3) := by decide +kernel
theorem dL_does_121 : decode cL_does 121 = .ok (.iconst 1, 1) := by decide +kernel
theorem dL_does_122 : decode cL_does 122 = .ok (.goto 63, 3) := by decide +kernel
theorem dL_does_125 : decode cL_does 125 = .ok (.iconst 0, 1) := by decide +kernel
theorem dL_does_126 : decode cL_does 126 = .ok (.goto 59, 3) := by decide +kernel
theorem dL_does_129 : decode cL_does 129 = .ok (.iload 6, 2) := by decide +kernel
theorem dL_does_131 : decode cL_does 131 = .ok (.iload_n 3, 1) := by decide +kernel
theorem dL_does_132 : decode cL_does 132 = .ok (.if_icmp .ne 52, 3) := by decide +kernel
theorem dL_does_135 : decode cL_does 135 = .ok (.aload_n 0, 1) := by decide +kernel
theorem dL_does_136 : decode cL_does 136 = .ok (.iload_n 3, 1) := by decide +kernel
theorem dL_does_137 : decode cL_does 137 = .ok (.iconst 0, 1) := by decide +kernel
theorem dL_does_138 : decode cL_does 138 = .ok (.invokevirtual 18, 3) := by decide +kernel
theorem dL_does_141 : decode cL_does 141 = .ok (.iload_n 3, 1) := by decide +kernel
theorem dL_does_142 : decode cL_does 142 = .ok (.ifCond .ne 8, 3) := by decide +kernel
theorem dL_does_145 : decode cL_does 145 = .ok (.bipush (-6), 2) := by decide +kernel
theorem dL_does_147 : decode cL_does 147 = .ok (.goto 5, 3) := by decide +kernel
theorem dL_does_150 : decode cL_does 150 = .ok (.iload 4, 2) := by decide +kernel
theorem dL_does_152 : decode cL_does 152 = .ok (.if_icmp .ne 32, 3) := by decide +kernel
theorem dL_does_155 : decode cL_does 155 = .ok (.aload_n 0, 1) := by decide +kernel
theorem dL_does_156 : decode cL_does 156 = .ok (.iload_n 3, 1) := by decide +kernel
theorem dL_does_157 : decode cL_does 157 = .ok (.bipush 7, 2) := by decide +kernel
theorem dL_does_159 : decode cL_does 159 = .ok (.invokevirtual 18, 3) := by decide +kernel
theorem dL_does_162 : decode cL_does 162 = .ok (.iload 5, 2) := by decide +kernel
theorem dL_does_164 : decode cL_does 164 = .ok (.iconst 1, 1) := by decide +kernel
theorem dL_does_165 : decode cL_does 165 = .ok (.iadd, 1) := by decide +kernel
theorem dL_does_166 : decode cL_does 166 = .ok (.if_icmp .ne 18, 3) := by decide +kernel
theorem dL_does_169 : decode cL_does 169 = .ok (.aload_n 0, 1) := by decide +kernel
theorem dL_does_170 : decode cL_does 170 = .ok (.iload_n 3, 1) := by decide +kernel
theorem dL_does_171 : decode cL_does 171 = .ok (.iconst 3, 1) := by decide +kernel
theorem dL_does_172 : decode cL_does 172 = .ok (.invokevirtual 18, 3) := by decide +kernel
theorem dL_does_175 : decode cL_does 175 = .ok (.bipush 100, 2) := by decide +kernel
theorem dL_does_177 : decode cL_does 177 = .ok (.if_icmp .ne 7, 3) := by decide +kernel
theorem dL_does_180 : decode cL_does 180 = .ok (.iconst 1, 1) := by decide +kernel
theorem dL_does_181 : decode cL_does 181 = .ok (.goto 4, 3) := by decide +kernel
theorem dL_does_184 : decode cL_does 184 = .ok (.iconst 0, 1) := by decide +kernel
theorem dL_does_185 : decode cL_does 185 = .ok (.ireturn, 1) := by decide +kernel
theorem dL_does_186 : decode cL_does 186 = .ok (.aload_n 0, 1) := by decide +kernel
theorem dL_does_187 : decode cL_does 187 = .ok (.iconst 3, 1) := by decide +kernel
theorem dL_does_188 : decode cL_does 188 = .ok (.invokevirtual 8, 3) := by decide +kernel
theorem dL_does_191 : decode cL_does 191 = .ok (.istore 7, 2) := by decide +kernel
theorem dL_does_193 : decode cL_does 193 = .ok (.aload_n 0, 1) := by decide +kernel
theorem dL_does_194 : decode cL_does 194 = .ok (.iload 4, 2) := by decide +kernel
theorem dL_does_196 : decode cL_does 196 = .ok (.iconst 1, 1) := by decide +kernel
theorem dL_does_197 : decode cL_does 197 = .ok (.iload_n 2, 1) := by decide +kernel
theorem dL_does_198 : decode cL_does 198 = .ok (.iload_n 1, 1) := by decide +kernel
theorem dL_does_199 : decode cL_does 199 = .ok (.bipush 9, 2) := by decide +kernel
theorem dL_does_201 : decode cL_does 201 = .ok (.ishr, 1) := by decide +kernel
theorem dL_does_202 : decode cL_does 202 = .ok (.iconst 1, 1) := by decide +kernel
theorem dL_does_203 : decode cL_does 203 = .ok (.iand, 1) := by decide +kernel
theorem dL_does_204 : decode cL_does 204 = .ok (.ifCond .ne 8, 3) := by decide +kernel
theorem dL_does_207 : decode cL_does 207 = .ok (.bipush 40, 2) := by decide +kernel
theorem dL_does_209 : decode cL_does 209 = .ok (.goto 6, 3) := by decide +kernel
theorem dL_does_212 : decode cL_does 212 = .ok (.sipush 4000, 3) := by decide +kernel
theorem dL_does_215 : decode cL_does 215 = .ok (.invokestatic 72, 3) := by decide +kernel
theorem dL_does_218 : decode cL_does 218 = .ok (.iadd, 1) := by decide +kernel
theorem dL_does_219 : decode cL_does 219 = .ok (.invokevirtual 80, 3) := by decide +kernel
theorem dL_does_222 : decode cL_does 222 = .ok (.istore 8, 2) := by decide +kernel
theorem dL_does_224 : decode cL_does 224 = .ok (.iload_n 3, 1) := by decide +kernel
theorem dL_does_225 : decode cL_does 225 = .ok (.ifCond .ne 17, 3) := by decide +kernel
theorem dL_does_228 : decode cL_does 228 = .ok (.iload 8, 2) := by decide +kernel
theorem dL_does_230 : decode cL_does 230 = .ok (.iconst (-1), 1) := by decide +kernel
theorem dL_does_231 : decode cL_does 231 = .ok (.if_icmp .ne 7, 3) := by decide +kernel
theorem dL_does_234 : decode cL_does 234 = .ok (.iconst 1, 1) := by decide +kernel
theorem dL_does_235 : decode cL_does 235 = .ok (.goto 63, 3) := by decide +kernel
theorem dL_does_238 : decode cL_does 238 = .ok (.iconst 0, 1) := by decide +kernel
theorem dL_does_239 : decode cL_does 239 = .ok (.goto 59, 3) := by decide +kernel
theorem dL_does_242 : decode cL_does 242 = .ok (.iload 7, 2) := by decide +kernel
theorem dL_does_244 : decode cL_does 244 = .ok (.bipush 12, 2) := by decide +kernel
theorem dL_does_246 : decode cL_does 246 = .ok (.if_icmp .ne 18, 3) := by decide +kernel
theorem dL_does_249 : decode cL_does 249 = .ok (.iload 8, 2) := by decide +kernel
theorem dL_does_251 : decode cL_does 251 = .ok (.bipush (-4), 2) := by decide +kernel
theorem dL_does_253 : decode cL_does 253 = .ok (.if_icmp .ne 7, 3) := by decide +kernel
theorem dL_does_256 : decode cL_does 256 = .ok (.iconst 1, 1) := by decide +kernel
theorem dL_does_257 : decode cL_does 257 = .ok (.goto 41, 3) := by decide +kernel
theorem dL_does_260 : decode cL_does 260 = .ok (.iconst 0, 1) := by decide +kernel
theorem dL_does_261 : decode cL_does 261 = .ok (.goto 37, 3) := by decide +kernel
theorem dL_does_264 : decode cL_does 264 = .ok (.iload 8, 2) := by decide +kernel
theorem dL_does_266 : decode cL_does 266 = .ok (.iload 7, 2) := by decide +kernel
theorem dL_does_268 : decode cL_does 268 = .ok (.if_icmp .ne 29, 3) := by decide +kernel
theorem dL_does_271 : decode cL_does 271 = .ok (.aload_n 0, 1) := by decide +kernel
theorem dL_does_272 : decode cL_does 272 = .ok (.iload 8, 2) := by decide +kernel
theorem dL_does_274 : decode cL_does 274 = .ok (.iconst 0, 1) := by decide +kernel
theorem dL_does_275 : decode cL_does 275 = .ok (.invokevirtual 14, 3) := by decide +kernel
theorem dL_does_278 : decode cL_does 278 = .ok (.iload 4, 2) := by decide +kernel
theorem dL_does_280 : decode cL_does 280 = .ok (.if_icmp .ne 17, 3) := by decide +kernel
theorem dL_does_283 : decode cL_does 283 = .ok (.aload_n 0, 1) := by decide +kernel
theorem dL_does_284 : decode cL_does 284 = .ok (.iload 8, 2) := by decide +kernel
theorem dL_does_286 : decode cL_does 286 = .ok (.iconst 2, 1) := by decide +kernel
theorem dL_does_287 : decode cL_does 287 = .ok (.invokevirtual 14, 3) := by decide +kernel
theorem dL_does_290 : decode cL_does 290 = .ok (.ifCond .ne 7, 3) := by decide +kernel
theorem dL_does_293 : decode cL_does 293 = .ok (.iconst 1, 1) := by decide +kernel
theorem dL_does_294 : decode cL_does 294 = .ok (.goto 4, 3) := by decide +kernel
theorem dL_does_297 : decode cL_does 297 = .ok (.iconst 0, 1) := by decide +kernel
theorem dL_does_298 : decode cL_does 298 = .ok (.ireturn, 1) := by decide +kernel
theorem dL_does_299 : decode cL_does 299 = .ok (.iload_n 2, 1) := by decide +kernel
theorem dL_does_300 : decode cL_does 300 = .ok (.bipush 12, 2) := by decide +kernel
theorem dL_does_302 : decode cL_does 302 = .ok (.invokestatic 72, 3) := by decide +kernel
theorem dL_does_305 : decode cL_does 305 = .ok (.istore 9, 2) := by decide +kernel
theorem dL_does_307 : decode cL_does 307 = .ok (.aload_n 0, 1) := by decide +kernel
theorem dL_does_308 : decode cL_does 308 = .ok (.iload 9, 2) := by decide +kernel
theorem dL_does_310 : decode cL_does 310 = .ok (.iconst 2, 1) := by decide +kernel
theorem dL_does_311 : decode cL_does 311 = .ok (.invokevirtual 14, 3) := by decide +kernel
theorem dL_does_314 : decode cL_does 314 = .ok (.istore 10, 2) := by decide +kernel
theorem dL_does_316 : decode cL_does 316 = .ok (.iload_n 3, 1) := by decide +kernel
theorem dL_does_317 : decode cL_does 317 = .ok (.ifCond .ne 7, 3) := by decide +kernel
theorem dL_does_320 : decode cL_does 320 = .ok (.iconst 0, 1) := by decide +kernel
theorem dL_does_321 : decode cL_does 321 = .ok (.goto 9, 3) := by decide +kernel
theorem dL_does_324 : decode cL_does 324 = .ok (.aload_n 0, 1) := by decide +kernel
theorem dL_does_325 : decode cL_does 325 = .ok (.iconst 0, 1) := by decide +kernel
theorem dL_does_326 : decode cL_does 326 = .ok (.iconst 1, 1) := by decide +kernel
theorem dL_does_327 : decode cL_does 327 = .ok (.invokevirtual 18, 3) := by decide +kernel
theorem dL_does_330 : decode cL_does 330 = .ok (.istore 11, 2) := by decide +kernel
theorem dL_does_332 : decode cL_does 332 = .ok (.aload_n 0, 1) := by decide +kernel
theorem dL_does_333 : decode cL_does 333 = .ok (.iload 9, 2) := by decide +kernel
theorem dL_does_335 : decode cL_does 335 = .ok (.invokevirtual 83, 3) := by decide +kernel
theorem dL_does_338 : decode cL_does 338 = .ok (.istore 12, 2) := by decide +kernel
theorem dL_does_340 : decode cL_does 340 = .ok (.iload 9, 2) := by decide +kernel
theorem dL_does_342 : decode cL_does 342 = .ok (.aload_n 0, 1) := by decide +kernel
theorem dL_does_343 : decode cL_does 343 = .ok (.iconst 3, 1) := by decide +kernel
theorem dL_does_344 : decode cL_does 344 = .ok (.invokevirtual 8, 3) := by decide +kernel
theorem dL_does_347 : decode cL_does 347 = .ok (.if_icmp .lt 17, 3) := by decide +kernel
theorem dL_does_350 : decode cL_does 350 = .ok (.iload 12, 2) := by decide +kernel
theorem dL_does_352 : decode cL_does 352 = .ok (.iconst (-1), 1) := by decide +kernel
theorem dL_does_353 : decode cL_does 353 = .ok (.if_icmp .ne 7, 3) := by decide +kernel
theorem dL_does_356 : decode cL_does 356 = .ok (.iconst 1, 1) := by decide +kernel
theorem dL_does_357 : decode cL_does 357 = .ok (.goto 52, 3) := by decide +kernel
theorem dL_does_360 : decode cL_does 360 = .ok (.iconst 0, 1) := by decide +kernel
theorem dL_does_361 : decode cL_does 361 = .ok (.goto 48, 3) := by decide +kernel
theorem dL_does_364 : decode cL_does 364 = .ok (.iload 12, 2) := by decide +kernel
theorem dL_does_366 : decode cL_does 366 = .ok (.iconst 1, 1) := by decide +kernel
theorem dL_does_367 : decode cL_does 367 = .ok (.iload 10, 2) := by decide +kernel
theorem dL_does_369 : decode cL_does 369 = .ok (.isub, 1) := by decide +kernel
theorem dL_does_370 : decode cL_does 370 = .ok (.if_icmp .ne 38, 3) := by decide +kernel
theorem dL_does_373 : decode cL_does 373 = .ok (.aload_n 0, 1) := by decide +kernel
theorem dL_does_374 : decode cL_does 374 = .ok (.iconst 0, 1) := by decide +kernel
theorem dL_does_375 : decode cL_does 375 = .ok (.iconst 1, 1) := by decide +kernel
theorem dL_does_376 : decode cL_does 376 = .ok (.invokevirtual 18, 3) := by decide +kernel
theorem dL_does_379 : decode cL_does 379 = .ok (.iload 11, 2) := by decide +kernel
theorem dL_does_381 : decode cL_does 381 = .ok (.iload 12, 2) := by decide +kernel
theorem dL_does_383 : decode cL_does 383 = .ok (.iconst 1, 1) := by decide +kernel
theorem dL_does_384 : decode cL_does 384 = .ok (.if_icmp .ne 7, 3) := by decide +kernel
theorem dL_does_387 : decode cL_does 387 = .ok (.iconst 1, 1) := by decide +kernel
theorem dL_does_388 : decode cL_does 388 = .ok (.goto 4, 3) := by decide +kernel
theorem dL_does_391 : decode cL_does 391 = .ok (.iconst (-1), 1) := by decide +kernel
theorem dL_does_392 : decode cL_does 392 = .ok (.aload_n 0, 1) := by decide +kernel
theorem dL_does_393 : decode cL_does 393 = .ok (.iload 9, 2) := by decide +kernel
theorem dL_does_395 : decode cL_does 395 = .ok (.iconst 1, 1) := by decide +kernel
theorem dL_does_396 : decode cL_does 396 = .ok (.invokevirtual 14, 3) := by decide +kernel
theorem dL_does_399 : decode cL_does 399 = .ok (.imul, 1) := by decide +kernel
theorem dL_does_400 : decode cL_does 400 = .ok (.iadd, 1) := by decide +kernel
theorem dL_does_401 : decode cL_does 401 = .ok (.if_icmp .ne 7, 3) := by decide +kernel
theorem dL_does_404 : decode cL_does 404 = .ok (.iconst 1, 1) := by decide +kernel
theorem dL_does_405 : decode cL_does 405 = .ok (.goto 4, 3) := by decide +kernel
theorem dL_does_408 : decode cL_does 408 = .ok (.iconst 0, 1) := by decide +kernel
theorem dL_does_409 : decode cL_does 409 = .ok (.ireturn, 1) := by decide +kernel
theorem dL_does_410 : decode cL_does 410 = .ok (.iload_n 3, 1) := by decide +kernel
theorem dL_does_411 : decode cL_does 411 = .ok (.ifCond .ne 7, 3) := by decide +kernel
theorem dL_does_414 : decode cL_does 414 = .ok (.iconst 0, 1) := by decide +kernel
theorem dL_does_415 : decode cL_does 415 = .ok (.goto 11, 3) := by decide +kernel
theorem dL_does_418 : decode cL_does 418 = .ok (.aload_n 0, 1) := by decide +kernel
theorem dL_does_419 : decode cL_does 419 = .ok (.iload 4, 2) := by decide +kernel
theorem dL_does_421 : decode cL_does 421 = .ok (.bipush 7, 2) := by decide +kernel
theorem dL_does_423 : decode cL_does 423 = .ok (.invokevirtual 18, 3) := by decide +kernel
theorem dL_does_426 : decode cL_does 426 = .ok (.istore 13, 2) := by decide +kernel
theorem dL_does_428 : decode cL_does 428 = .ok (.iload_n 3, 1) := by decide +kernel
theorem dL_does_429 : decode cL_does 429 = .ok (.ifCond .ne 7, 3) := by decide +kernel
theorem dL_does_432 : decode cL_does 432 = .ok (.iconst 0, 1) := by decide +kernel
theorem dL_does_433 : decode cL_does 433 = .ok (.goto 11, 3) := by decide +kernel
theorem dL_does_436 : decode cL_does 436 = .ok (.aload_n 0, 1) := by decide +kernel
theorem dL_does_437 : decode cL_does 437 = .ok (.iload 4, 2) := by decide +kernel
theorem dL_does_439 : decode cL_does 439 = .ok (.bipush 8, 2) := by decide +kernel
theorem dL_does_441 : decode cL_does 441 = .ok (.invokevirtual 18, 3) := by decide +kernel
theorem dL_does_444 : decode cL_does 444 = .ok (.istore 14, 2) := by decide +kernel
theorem dL_does_446 : decode cL_does 446 = .ok (.iload_n 1, 1) := by decide +kernel
theorem dL_does_447 : decode cL_does 447 = .ok (.bipush 9, 2) := by decide +kernel
theorem dL_does_449 : decode cL_does 449 = .ok (.ishr, 1) := by decide +kernel
theorem dL_does_450 : decode cL_does 450 = .ok (.iconst 1, 1) := by decide +kernel
theorem dL_does_451 : decode cL_does 451 = .ok (.iand, 1) := by decide +kernel
theorem dL_does_452 : decode cL_does 452 = .ok (.ifCond .eq 49, 3) := by decide +kernel
theorem dL_does_455 : decode cL_does 455 = .ok (.aload_n 0, 1) := by decide +kernel
theorem dL_does_456 : decode cL_does 456 = .ok (.iload 4, 2) := by decide +kernel
theorem dL_does_458 : decode cL_does 458 = .ok (.invokevirtual 86, 3) := by decide +kernel
theorem dL_does_461 : decode cL_does 461 = .ok (.iload_n 3, 1) := by decide +kernel
theorem dL_does_462 : decode cL_does 462 = .ok (.ifCond .ne 7, 3) := by decide +kernel
theorem dL_does_465 : decode cL_does 465 = .ok (.iconst (-1), 1) := by decide +kernel
theorem dL_does_466 : decode cL_does 466 = .ok (.goto 16, 3) := by decide +kernel
theorem dL_does_469 : decode cL_does 469 = .ok (.iload 14, 2) := by decide +kernel
theorem dL_does_471 : decode cL_does 471 = .ok (.iconst 1, 1) := by decide +kernel
theorem dL_does_472 : decode cL_does 472 = .ok (.if_icmp .ne 8, 3) := by decide +kernel
theorem dL_does_475 : decode cL_does 475 = .ok (.bipush (-5), 2) := by decide +kernel
theorem dL_does_477 : decode cL_does 477 = .ok (.goto 5, 3) := by decide +kernel
theorem dL_does_480 : decode cL_does 480 = .ok (.iload 13, 2) := by decide +kernel
theorem dL_does_482 : decode cL_does 482 = .ok (.if_icmp .ne 23, 3) := by decide +kernel
theorem dL_does_485 : decode cL_does 485 = .ok (.iload_n 3, 1) := by decide +kernel
theorem dL_does_486 : decode cL_does 486 = .ok (.ifCond .eq 15, 3) := by decide +kernel
theorem dL_does_489 : decode cL_does 489 = .ok (.aload_n 0, 1) := by decide +kernel
theorem dL_does_490 : decode cL_does 490 = .ok (.iload 4, 2) := by decide +kernel
theorem dL_does_492 : decode cL_does 492 = .ok (.bipush 8, 2) := by decide +kernel
theorem dL_does_494 : decode cL_does 494 = .ok (.invokevirtual 18, 3) := by decide +kernel
theorem dL_does_497 : decode cL_does 497 = .ok (.iconst 1, 1) := by decide +kernel
theorem dL_does_498 : decode cL_does 498 = .ok (.if_icmp .ne 7, 3) := by decide +kernel
theorem dL_does_501 : decode cL_does 501 = .ok (.iconst 1, 1) := by decide +kernel
theorem dL_does_502 : decode cL_does 502 = .ok (.goto 4, 3) := by decide +kernel
theorem dL_does_505 : decode cL_does 505 = .ok (.iconst 0, 1) := by decide +kernel
theorem dL_does_506 : decode cL_does 506 = .ok (.ireturn, 1) := by decide +kernel
theorem dL_does_507 : decode cL_does 507 = .ok (.iload_n 3, 1) := by decide +kernel
theorem dL_does_508 : decode cL_does 508 = .ok (.ifCond .ne 20, 3) := by decide +kernel
theorem dL_does_511 : decode cL_does 511 = .ok (.aload_n 0, 1) := by decide +kernel
theorem dL_does_512 : decode cL_does 512 = .ok (.iconst 0, 1) := by decide +kernel
theorem dL_does_513 : decode cL_does 513 = .ok (.invokevirtual 57, 3) := by decide +kernel
theorem dL_does_516 : decode cL_does 516 = .ok (.iconst (-1), 1) := by decide +kernel
theorem dL_does_517 : decode cL_does 517 = .ok (.if_icmp .ne 7, 3) := by decide +kernel
theorem dL_does_520 : decode cL_does 520 = .ok (.iconst 1, 1) := by decide +kernel
theorem dL_does_521 : decode cL_does 521 = .ok (.goto 13, 3) := by decide +kernel
theorem dL_does_524 : decode cL_does 524 = .ok (.iconst 0, 1) := by decide +kernel
theorem dL_does_525 : decode cL_does 525 = .ok (.goto 9, 3) := by decide +kernel
theorem dL_does_528 : decode cL_does 528 = .ok (.aload_n 0, 1) := by decide +kernel
theorem dL_does_529 : decode cL_does 529 = .ok (.iload 4, 2) := by decide +kernel
theorem dL_does_531 : decode cL_does 531 = .ok (.invokestatic 89, 3) := by decide +kernel
theorem dL_does_534 : decode cL_does 534 = .ok (.ireturn, 1) := by decide +kernel
theorem dL_does_535 : decode cL_does 535 = .ok (.iload_n 1, 1) := by decide +kernel
theorem dL_does_536 : decode cL_does 536 = .ok (.iconst 4, 1) := by decide +kernel
theorem dL_does_537 : decode cL_does 537 = .ok (.ishr, 1) := by decide +kernel
theorem dL_does_538 : decode cL_does 538 = .ok (.bipush 6, 2) := by decide +kernel
theorem dL_does_540 : decode cL_does 540 = .ok (.invokestatic 72, 3) := by decide +kernel
theorem dL_does_543 : decode cL_does 543 = .ok (.istore 15, 2) := by decide +kernel
theorem dL_does_545 : decode cL_does 545 = .ok (.iload 15, 2) := by decide +kernel
theorem dL_does_547 : decode cL_does 547 = .ok (.iconst 1, 1) := by decide +kernel
theorem dL_does_548 : decode cL_does 548 = .ok (.if_icmp .ne 12, 3) := by decide +kernel
theorem dL_does_551 : decode cL_does 551 = .ok (.iload_n 2, 1) := by decide +kernel
theorem dL_does_552 : decode cL_does 552 = .ok (.bipush 10, 2) := by decide +kernel
theorem dL_does_554 : decode cL_does 554 = .ok (.invokestatic 72, 3) := by decide +kernel
theorem dL_does_557 : decode cL_does 557 = .ok (.goto 42, 3) := by decide +kernel
theorem dL_does_560 : decode cL_does 560 = .ok (.iload 15, 2) := by decide +kernel
theorem dL_does_562 : decode cL_does 562 = .ok (.iconst 2, 1) := by decide +kernel
theorem dL_does_563 : decode cL_does 563 = .ok (.if_icmp .ne 11, 3) := by decide +kernel
theorem dL_does_566 : decode cL_does 566 = .ok (.iload_n 2, 1) := by decide +kernel
theorem dL_does_567 : decode cL_does 567 = .ok (.iconst 2, 1) := by decide +kernel
theorem dL_does_568 : decode cL_does 568 = .ok (.invokestatic 72, 3) := by decide +kernel
theorem dL_does_571 : decode cL_does 571 = .ok (.goto 28, 3) := by decide +kernel
theorem dL_does_574 : decode cL_does 574 = .ok (.iload 15, 2) := by decide +kernel
theorem dL_does_576 : decode cL_does 576 = .ok (.iconst 3, 1) := by decide +kernel
theorem dL_does_577 : decode cL_does 577 = .ok (.if_icmp .ne 16, 3) := by decide +kernel
theorem dL_does_580 : decode cL_does 580 = .ok (.bipush 100, 2) := by decide +kernel
theorem dL_does_582 : decode cL_does 582 = .ok (.iload_n 2, 1) := by decide +kernel
theorem dL_does_583 : decode cL_does 583 = .ok (.sipush 900, 3) := by decide +kernel
theorem dL_does_586 : decode cL_does 586 = .ok (.invokestatic 72, 3) := by decide +kernel
theorem dL_does_589 : decode cL_does 589 = .ok (.iadd, 1) := by decide +kernel
theorem dL_does_590 : decode cL_does 590 = .ok (.goto 9, 3) := by decide +kernel
theorem dL_does_593 : decode cL_does 593 = .ok (.iload_n 2, 1) := by decide +kernel
theorem dL_does_594 : decode cL_does 594 = .ok (.bipush 100, 2) := by decide +kernel
theorem dL_does_596 : decode cL_does 596 = .ok (.invokestatic 72, 3) := by decide +kernel
theorem dL_does_599 : decode cL_does 599 = .ok (.istore 16, 2) := by decide +kernel
theorem dL_does_601 : decode cL_does 601 = .ok (.aload_n 0, 1) := by decide +kernel
theorem dL_does_602 : decode cL_does 602 = .ok (.bipush 9, 2) := by decide +kernel
theorem dL_does_604 : decode cL_does 604 = .ok (.iload 15, 2) := by decide +kernel
theorem dL_does_606 : decode cL_does 606 = .ok (.iadd, 1) := by decide +kernel
theorem dL_does_607 : decode cL_does 607 = .ok (.invokevirtual 8, 3) := by decide +kernel
theorem dL_does_610 : decode cL_does 610 = .ok (.istore 17, 2) := by decide +kernel
theorem dL_does_612 : decode cL_does 612 = .ok (.aload_n 0, 1) := by decide +kernel
theorem dL_does_613 : decode cL_does 613 = .ok (.iload 15, 2) := by decide +kernel
theorem dL_does_615 : decode cL_does 615 = .ok (.iload 16, 2) := by decide +kernel
theorem dL_does_617 : decode cL_does 617 = .ok (.invokevirtual 93, 3) := by decide +kernel
theorem dL_does_620 : decode cL_does 620 = .ok (.iload 17, 2) := by decide +kernel
theorem dL_does_622 : decode cL_does 622 = .ok (.if_icmp .ne 21, 3) := by decide +kernel
theorem dL_does_625 : decode cL_does 625 = .ok (.aload_n 0, 1) := by decide +kernel
theorem dL_does_626 : decode cL_does 626 = .ok (.bipush 9, 2) := by decide +kernel
theorem dL_does_628 : decode cL_does 628 = .ok (.iload 15, 2) := by decide +kernel
theorem dL_does_630 : decode cL_does 630 = .ok (.iadd, 1) := by decide +kernel
theorem dL_does_631 : decode cL_does 631 = .ok (.invokevirtual 8, 3) := by decide +kernel
theorem dL_does_634 : decode cL_does 634 = .ok (.iload 16, 2) := by decide +kernel
theorem dL_does_636 : decode cL_does 636 = .ok (.if_icmp .ne 7, 3) := by decide +kernel
theorem dL_does_639 : decode cL_does 639 = .ok (.iconst 1, 1) := by decide +kernel
theorem dL_does_640 : decode cL_does 640 = .ok (.goto 4, 3) := by decide +kernel
theorem dL_does_643 : decode cL_does 643 = .ok (.iconst 0, 1) := by decide +kernel
theorem dL_does_644 : decode cL_does 644 = .ok (.ireturn, 1) := by decide +kernel
theorem dL_does_645 : decode cL_does 645 = .ok (.iload_n 3, 1) := by decide +kernel
theorem dL_does_646 : decode cL_does 646 = .ok (.ifCond .ne 20, 3) := by decide +kernel
theorem dL_does_649 : decode cL_does 649 = .ok (.aload_n 0, 1) := by decide +kernel
theorem dL_does_650 : decode cL_does 650 = .ok (.iconst 0, 1) := by decide +kernel
theorem dL_does_651 : decode cL_does 651 = .ok (.invokevirtual 60, 3) := by decide +kernel
theorem dL_does_654 : decode cL_does 654 = .ok (.iconst (-1), 1) := by decide +kernel
theorem dL_does_655 : decode cL_does 655 = .ok (.if_icmp .ne 7, 3) := by decide +kernel
theorem dL_does_658 : decode cL_does 658 = .ok (.iconst 1, 1) := by decide +kernel
theorem dL_does_659 : decode cL_does 659 = .ok (.goto 13, 3) := by decide +kernel
theorem dL_does_662 : decode cL_does 662 = .ok (.iconst 0, 1) := by decide +kernel
theorem dL_does_663 : decode cL_does 663 = .ok (.goto 9, 3) := by decide +kernel
theorem dL_does_666 : decode cL_does 666 = .ok (.aload_n 0, 1) := by decide +kernel
theorem dL_does_667 : decode cL_does 667 = .ok (.iload 4, 2) := by decide +kernel
theorem dL_does_669 : decode cL_does 669 = .ok (.invokestatic 96, 3) := by decide +kernel
theorem dL_does_672 : decode cL_does 672 = .ok (.ireturn, 1) := by decide +kernel
theorem dL_does_673 : decode cL_does 673 = .ok (.aload_n 0, 1) := by decide +kernel
theorem dL_does_674 : decode cL_does 674 = .ok (.iconst 1, 1) := by decide +kernel
theorem dL_does_675 : decode cL_does 675 = .ok (.iload_n 2, 1) := by decide +kernel
theorem dL_does_676 : decode cL_does 676 = .ok (.iload_n 1, 1) := by decide +kernel
theorem dL_does_677 : decode cL_does 677 = .ok (.bipush 9, 2) := by decide +kernel
theorem dL_does_679 : decode cL_does 679 = .ok (.ishr, 1) := by decide +kernel
theorem dL_does_680 : decode cL_does 680 = .ok (.iconst 1, 1) := by decide +kernel
theorem dL_does_681 : decode cL_does 681 = .ok (.iand, 1) := by decide +kernel
theorem dL_does_682 : decode cL_does 682 = .ok (.ifCond .ne 9, 3) := by decide +kernel
theorem dL_does_685 : decode cL_does 685 = .ok (.sipush 700, 3) := by decide +kernel
theorem dL_does_688 : decode cL_does 688 = .ok (.goto 5, 3) := by decide +kernel
theorem dL_does_691 : decode cL_does 691 = .ok (.bipush 20, 2) := by decide +kernel
theorem dL_does_693 : decode cL_does 693 = .ok (.invokestatic 72, 3) := by decide +kernel
theorem dL_does_696 : decode cL_does 696 = .ok (.iadd, 1) := by decide +kernel
theorem dL_does_697 : decode cL_does 697 = .ok (.iload 4, 2) := by decide +kernel
theorem dL_does_699 : decode cL_does 699 = .ok (.invokestatic 99, 3) := by decide +kernel
theorem dL_does_702 : decode cL_does 702 = .ok (.ireturn, 1) := by decide +kernel
theorem dL_law_0 : decode cL_law 0 = .ok (.new 9, 3) := by decide +kernel
theorem dL_law_3 : decode cL_law 3 = .ok (.dup, 1) := by decide +kernel
theorem dL_law_4 : decode cL_law 4 = .ok (.invokespecial 103, 3) := by decide +kernel
theorem dL_law_7 : decode cL_law 7 = .ok (.astore_n 1, 1) := by decide +kernel
theorem dL_law_8 : decode cL_law 8 = .ok (.aload_n 1, 1) := by decide +kernel
theorem dL_law_9 : decode cL_law 9 = .ok (.invokestatic 104, 3) := by decide +kernel
theorem dL_law_12 : decode cL_law 12 = .ok (.ifCond .eq 42, 3) := by decide +kernel
theorem dL_law_15 : decode cL_law 15 = .ok (.aload_n 1, 1) := by decide +kernel
theorem dL_law_16 : decode cL_law 16 = .ok (.iconst 1, 1) := by decide +kernel
theorem dL_law_17 : decode cL_law 17 = .ok (.invokevirtual 8, 3) := by decide +kernel
theorem dL_law_20 : decode cL_law 20 = .ok (.iconst 1, 1) := by decide +kernel
theorem dL_law_21 : decode cL_law 21 = .ok (.if_icmp .ne 33, 3) := by decide +kernel
theorem dL_law_24 : decode cL_law 24 = .ok (.aload_n 1, 1) := by decide +kernel
theorem dL_law_25 : decode cL_law 25 = .ok (.bipush 12, 2) := by decide +kernel
theorem dL_law_27 : decode cL_law 27 = .ok (.invokevirtual 8, 3) := by decide +kernel
theorem dL_law_30 : decode cL_law 30 = .ok (.sipush 1000, 3) := by decide +kernel
theorem dL_law_33 : decode cL_law 33 = .ok (.if_icmp .ne 21, 3) := by decide +kernel
theorem dL_law_36 : decode cL_law 36 = .ok (.aload_n 1, 1) := by decide +kernel
theorem dL_law_37 : decode cL_law 37 = .ok (.invokevirtual 108, 3) := by decide +kernel
theorem dL_law_40 : decode cL_law 40 = .ok (.bipush (-5), 2) := by decide +kernel
theorem dL_law_42 : decode cL_law 42 = .ok (.if_icmp .ne 12, 3) := by decide +kernel
theorem dL_law_45 : decode cL_law 45 = .ok (.aload_n 1, 1) := by decide +kernel
theorem dL_law_46 : decode cL_law 46 = .ok (.iconst 0, 1) := by decide +kernel
theorem dL_law_47 : decode cL_law 47 = .ok (.invokevirtual 24, 3) := by decide +kernel
theorem dL_law_50 : decode cL_law 50 = .ok (.iconst (-1), 1) := by decide +kernel
theorem dL_law_51 : decode cL_law 51 = .ok (.if_icmp .eq 5, 3) := by decide +kernel
theorem dL_law_54 : decode cL_law 54 = .ok (.iconst 0, 1) := by decide +kernel
theorem dL_law_55 : decode cL_law 55 = .ok (.ireturn, 1) := by decide +kernel
theorem dL_law_56 : decode cL_law 56 = .ok (.iconst 0, 1) := by decide +kernel
theorem dL_law_57 : decode cL_law 57 = .ok (.istore_n 2, 1) := by decide +kernel
theorem dL_law_58 : decode cL_law 58 = .ok (.iload_n 2, 1) := by decide +kernel
theorem dL_law_59 : decode cL_law 59 = .ok (.bipush 90, 2) := by decide +kernel
theorem dL_law_61 : decode cL_law 61 = .ok (.if_icmp .ge 48, 3) := by decide +kernel
theorem dL_law_64 : decode cL_law 64 = .ok (.aload_n 1, 1) := by decide +kernel
theorem dL_law_65 : decode cL_law 65 = .ok (.aload_n 0, 1) := by decide +kernel
theorem dL_law_66 : decode cL_law 66 = .ok (.iconst 2, 1) := by decide +kernel
theorem dL_law_67 : decode cL_law 67 = .ok (.iload_n 2, 1) := by decide +kernel
theorem dL_law_68 : decode cL_law 68 = .ok (.imul, 1) := by decide +kernel
theorem dL_law_69 : decode cL_law 69 = .ok (.invokestatic 111, 3) := by decide +kernel
theorem dL_law_72 : decode cL_law 72 = .ok (.aload_n 0, 1) := by decide +kernel
theorem dL_law_73 : decode cL_law 73 = .ok (.iconst 2, 1) := by decide +kernel
theorem dL_law_74 : decode cL_law 74 = .ok (.iload_n 2, 1) := by decide +kernel
theorem dL_law_75 : decode cL_law 75 = .ok (.imul, 1) := by decide +kernel
theorem dL_law_76 : decode cL_law 76 = .ok (.iconst 1, 1) := by decide +kernel
theorem dL_law_77 : decode cL_law 77 = .ok (.iadd, 1) := by decide +kernel
theorem dL_law_78 : decode cL_law 78 = .ok (.invokestatic 111, 3) := by decide +kernel
theorem dL_law_81 : decode cL_law 81 = .ok (.invokestatic 115, 3) := by decide +kernel
theorem dL_law_84 : decode cL_law 84 = .ok (.ifCond .eq 17, 3) := by decide +kernel
theorem dL_law_87 : decode cL_law 87 = .ok (.iload_n 2, 1) := by decide +kernel
theorem dL_law_88 : decode cL_law 88 = .ok (.iconst 2, 1) := by decide +kernel
theorem dL_law_89 : decode cL_law 89 = .ok (.irem, 1) := by decide +kernel
theorem dL_law_90 : decode cL_law 90 = .ok (.iconst 1, 1) := by decide +kernel
theorem dL_law_91 : decode cL_law 91 = .ok (.if_icmp .ne 12, 3) := by decide +kernel
theorem dL_law_94 : decode cL_law 94 = .ok (.aload_n 1, 1) := by decide +kernel
theorem dL_law_95 : decode cL_law 95 = .ok (.invokestatic 104, 3) := by decide +kernel
theorem dL_law_98 : decode cL_law 98 = .ok (.ifCond .ne 5, 3) := by decide +kernel
theorem dL_law_101 : decode cL_law 101 = .ok (.iconst 0, 1) := by decide +kernel
theorem dL_law_102 : decode cL_law 102 = .ok (.ireturn, 1) := by decide +kernel
theorem dL_law_103 : decode cL_law 103 = .ok (.iinc 2 1, 3) := by decide +kernel
theorem dL_law_106 : decode cL_law 106 = .ok (.goto (-48), 3) := by decide +kernel
theorem dL_law_109 : decode cL_law 109 = .ok (.aload_n 1, 1) := by decide +kernel
theorem dL_law_110 : decode cL_law 110 = .ok (.bipush 6, 2) := by decide +kernel
theorem dL_law_112 : decode cL_law 112 = .ok (.iconst 1, 1) := by decide +kernel
theorem dL_law_113 : decode cL_law 113 = .ok (.invokevirtual 93, 3) := by decide +kernel
theorem dL_law_116 : decode cL_law 116 = .ok (.bipush (-2), 2) := by decide +kernel
theorem dL_law_118 : decode cL_law 118 = .ok (.if_icmp .ne 62, 3) := by decide +kernel
theorem dL_law_121 : decode cL_law 121 = .ok (.aload_n 1, 1) := by decide +kernel
theorem dL_law_122 : decode cL_law 122 = .ok (.iconst 3, 1) := by decide +kernel
theorem dL_law_123 : decode cL_law 123 = .ok (.bipush 99, 2) := by decide +kernel
theorem dL_law_125 : decode cL_law 125 = .ok (.invokevirtual 93, 3) := by decide +kernel
theorem dL_law_128 : decode cL_law 128 = .ok (.bipush (-2), 2) := by decide +kernel
theorem dL_law_130 : decode cL_law 130 = .ok (.if_icmp .ne 50, 3) := by decide +kernel
theorem dL_law_133 : decode cL_law 133 = .ok (.aload_n 1, 1) := by decide +kernel
theorem dL_law_134 : decode cL_law 134 = .ok (.sipush 1441, 3) := by decide +kernel
theorem dL_law_137 : decode cL_law 137 = .ok (.invokevirtual 38, 3) := by decide +kernel
theorem dL_law_140 : decode cL_law 140 = .ok (.bipush (-2), 2) := by decide +kernel
theorem dL_law_142 : decode cL_law 142 = .ok (.if_icmp .ne 38, 3) := by decide +kernel
theorem dL_law_145 : decode cL_law 145 = .ok (.aload_n 1, 1) := by decide +kernel
theorem dL_law_146 : decode cL_law 146 = .ok (.bipush 17, 2) := by decide +kernel
theorem dL_law_148 : decode cL_law 148 = .ok (.invokevirtual 8, 3) := by decide +kernel
theorem dL_law_151 : decode cL_law 151 = .ok (.bipush (-2), 2) := by decide +kernel
theorem dL_law_153 : decode cL_law 153 = .ok (.if_icmp .ne 27, 3) := by decide +kernel
theorem dL_law_156 : decode cL_law 156 = .ok (.aload_n 1, 1) := by decide +kernel
theorem dL_law_157 : decode cL_law 157 = .ok (.bipush 12, 2) := by decide +kernel
theorem dL_law_159 : decode cL_law 159 = .ok (.invokevirtual 83, 3) := by decide +kernel
theorem dL_law_162 : decode cL_law 162 = .ok (.iconst (-1), 1) := by decide +kernel
theorem dL_law_163 : decode cL_law 163 = .ok (.if_icmp .ne 17, 3) := by decide +kernel
theorem dL_law_166 : decode cL_law 166 = .ok (.aload_n 1, 1) := by decide +kernel
theorem dL_law_167 : decode cL_law 167 = .ok (.bipush 7, 2) := by decide +kernel
theorem dL_law_169 : decode cL_law 169 = .ok (.invokevirtual 21, 3) := by decide +kernel
theorem dL_law_172 : decode cL_law 172 = .ok (.iconst (-1), 1) := by decide +kernel
theorem dL_law_173 : decode cL_law 173 = .ok (.if_icmp .ne 7, 3) := by decide +kernel
theorem dL_law_176 : decode cL_law 176 = .ok (.iconst 1, 1) := by decide +kernel
theorem dL_law_177 : decode cL_law 177 = .ok (.goto 4, 3) := by decide +kernel
theorem dL_law_180 : decode cL_law 180 = .ok (.iconst 0, 1) := by decide +kernel
theorem dL_law_181 : decode cL_law 181 = .ok (.ireturn, 1) := by decide +kernel

