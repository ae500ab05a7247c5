theorem dL_below_0 : decode cL_below 0 = .ok (.iload_n 0, 1) := by decide +kernel
theorem dL_below_1 : decode cL_below 1 = .ok (.ldc 7, 2) := by decide +kernel
theorem dL_below_3 : decode cL_below 3 = .ok (.iand, 1) := by decide +kernel
theorem dL_below_4 : decode cL_below 4 = .ok (.iload_n 1, 1) := by decide +kernel
theorem dL_below_5 : decode cL_below 5 = .ok (.irem, 1) := by decide +kernel
theorem dL_below_6 : decode cL_below 6 = .ok (.ireturn, 1) := by decide +kernel
theorem dL_cell_0 : decode cL_cell 0 = .ok (.iload_n 1, 1) := by decide +kernel
theorem dL_cell_1 : decode cL_cell 1 = .ok (.aload_n 0, 1) := by decide +kernel
theorem dL_cell_2 : decode cL_cell 2 = .ok (.arraylength, 1) := by decide +kernel
theorem dL_cell_3 : decode cL_cell 3 = .ok (.if_icmp .ge 9, 3) := by decide +kernel
theorem dL_cell_6 : decode cL_cell 6 = .ok (.aload_n 0, 1) := by decide +kernel
theorem dL_cell_7 : decode cL_cell 7 = .ok (.iload_n 1, 1) := by decide +kernel
theorem dL_cell_8 : decode cL_cell 8 = .ok (.iaload, 1) := by decide +kernel
theorem dL_cell_9 : decode cL_cell 9 = .ok (.goto 9, 3) := by decide +kernel
theorem dL_cell_12 : decode cL_cell 12 = .ok (.ldc 8, 2) := by decide +kernel
theorem dL_cell_14 : decode cL_cell 14 = .ok (.iload_n 1, 1) := by decide +kernel
theorem dL_cell_15 : decode cL_cell 15 = .ok (.iconst 3, 1) := by decide +kernel
theorem dL_cell_16 : decode cL_cell 16 = .ok (.iadd, 1) := by decide +kernel
theorem dL_cell_17 : decode cL_cell 17 = .ok (.imul, 1) := by decide +kernel
theorem dL_cell_18 : decode cL_cell 18 = .ok (.ireturn, 1) := by decide +kernel
theorem dL_canopy_0 : decode cL_canopy 0 = .ok (.new 9, 3) := by decide +kernel
theorem dL_canopy_3 : decode cL_canopy 3 = .ok (.dup, 1) := by decide +kernel
theorem dL_canopy_4 : decode cL_canopy 4 = .ok (.invokespecial 11, 3) := by decide +kernel
theorem dL_canopy_7 : decode cL_canopy 7 = .ok (.astore_n 2, 1) := by decide +kernel
theorem dL_canopy_8 : decode cL_canopy 8 = .ok (.iconst 2, 1) := by decide +kernel
theorem dL_canopy_9 : decode cL_canopy 9 = .ok (.aload_n 0, 1) := by decide +kernel
theorem dL_canopy_10 : decode cL_canopy 10 = .ok (.iconst 0, 1) := by decide +kernel
theorem dL_canopy_11 : decode cL_canopy 11 = .ok (.invokestatic 12, 3) := by decide +kernel
theorem dL_canopy_14 : decode cL_canopy 14 = .ok (.bipush 7, 2) := by decide +kernel
theorem dL_canopy_16 : decode cL_canopy 16 = .ok (.invokestatic 18, 3) := by decide +kernel
theorem dL_canopy_19 : decode cL_canopy 19 = .ok (.iadd, 1) := by decide +kernel
theorem dL_canopy_20 : decode cL_canopy 20 = .ok (.istore_n 3, 1) := by decide +kernel
theorem dL_canopy_21 : decode cL_canopy 21 = .ok (.iconst 0, 1) := by decide +kernel
theorem dL_canopy_22 : decode cL_canopy 22 = .ok (.istore 4, 2) := by decide +kernel
theorem dL_canopy_24 : decode cL_canopy 24 = .ok (.iload 4, 2) := by decide +kernel
theorem dL_canopy_26 : decode cL_canopy 26 = .ok (.iload_n 3, 1) := by decide +kernel
theorem dL_canopy_27 : decode cL_canopy 27 = .ok (.if_icmp .ge 72, 3) := by decide +kernel
theorem dL_canopy_30 : decode cL_canopy 30 = .ok (.aload_n 2, 1) := by decide +kernel
theorem dL_canopy_31 : decode cL_canopy 31 = .ok (.iconst 5, 1) := by decide +kernel
theorem dL_canopy_32 : decode cL_canopy 32 = .ok (.iload 4, 2) := by decide +kernel
theorem dL_canopy_34 : decode cL_canopy 34 = .ok (.imul, 1) := by decide +kernel
theorem dL_canopy_35 : decode cL_canopy 35 = .ok (.aload_n 0, 1) := by decide +kernel
theorem dL_canopy_36 : decode cL_canopy 36 = .ok (.iconst 1, 1) := by decide +kernel
theorem dL_canopy_37 : decode cL_canopy 37 = .ok (.invokestatic 12, 3) := by decide +kernel
theorem dL_canopy_40 : decode cL_canopy 40 = .ok (.iconst 3, 1) := by decide +kernel
theorem dL_canopy_41 : decode cL_canopy 41 = .ok (.iload 4, 2) := by decide +kernel
theorem dL_canopy_43 : decode cL_canopy 43 = .ok (.imul, 1) := by decide +kernel
theorem dL_canopy_44 : decode cL_canopy 44 = .ok (.ishr, 1) := by decide +kernel
theorem dL_canopy_45 : decode cL_canopy 45 = .ok (.iconst 5, 1) := by decide +kernel
theorem dL_canopy_46 : decode cL_canopy 46 = .ok (.invokestatic 18, 3) := by decide +kernel
theorem dL_canopy_49 : decode cL_canopy 49 = .ok (.iadd, 1) := by decide +kernel
theorem dL_canopy_50 : decode cL_canopy 50 = .ok (.aload_n 0, 1) := by decide +kernel
theorem dL_canopy_51 : decode cL_canopy 51 = .ok (.iconst 2, 1) := by decide +kernel
theorem dL_canopy_52 : decode cL_canopy 52 = .ok (.invokestatic 12, 3) := by decide +kernel
theorem dL_canopy_55 : decode cL_canopy 55 = .ok (.iconst 3, 1) := by decide +kernel
theorem dL_canopy_56 : decode cL_canopy 56 = .ok (.iload 4, 2) := by decide +kernel
theorem dL_canopy_58 : decode cL_canopy 58 = .ok (.imul, 1) := by decide +kernel
theorem dL_canopy_59 : decode cL_canopy 59 = .ok (.ishr, 1) := by decide +kernel
theorem dL_canopy_60 : decode cL_canopy 60 = .ok (.bipush 41, 2) := by decide +kernel
theorem dL_canopy_62 : decode cL_canopy 62 = .ok (.invokestatic 18, 3) := by decide +kernel
theorem dL_canopy_65 : decode cL_canopy 65 = .ok (.bipush 60, 2) := by decide +kernel
theorem dL_canopy_67 : decode cL_canopy 67 = .ok (.bipush 7, 2) := by decide +kernel
theorem dL_canopy_69 : decode cL_canopy 69 = .ok (.iload 4, 2) := by decide +kernel
theorem dL_canopy_71 : decode cL_canopy 71 = .ok (.imul, 1) := by decide +kernel
theorem dL_canopy_72 : decode cL_canopy 72 = .ok (.isub, 1) := by decide +kernel
theorem dL_canopy_73 : decode cL_canopy 73 = .ok (.aload_n 0, 1) := by decide +kernel
theorem dL_canopy_74 : decode cL_canopy 74 = .ok (.iconst 3, 1) := by decide +kernel
theorem dL_canopy_75 : decode cL_canopy 75 = .ok (.invokestatic 12, 3) := by decide +kernel
theorem dL_canopy_78 : decode cL_canopy 78 = .ok (.iconst 2, 1) := by decide +kernel
theorem dL_canopy_79 : decode cL_canopy 79 = .ok (.iload 4, 2) := by decide +kernel
theorem dL_canopy_81 : decode cL_canopy 81 = .ok (.imul, 1) := by decide +kernel
theorem dL_canopy_82 : decode cL_canopy 82 = .ok (.ishr, 1) := by decide +kernel
theorem dL_canopy_83 : decode cL_canopy 83 = .ok (.bipush 6, 2) := by decide +kernel
theorem dL_canopy_85 : decode cL_canopy 85 = .ok (.invokestatic 18, 3) := by decide +kernel
theorem dL_canopy_88 : decode cL_canopy 88 = .ok (.isub, 1) := by decide +kernel
theorem dL_canopy_89 : decode cL_canopy 89 = .ok (.invokevirtual 22, 3) := by decide +kernel
theorem dL_canopy_92 : decode cL_canopy 92 = .ok (.pop, 1) := by decide +kernel
theorem dL_canopy_93 : decode cL_canopy 93 = .ok (.iinc 4 1, 3) := by decide +kernel
theorem dL_canopy_96 : decode cL_canopy 96 = .ok (.goto (-72), 3) := by decide +kernel
theorem dL_canopy_99 : decode cL_canopy 99 = .ok (.iconst 1, 1) := by decide +kernel
theorem dL_canopy_100 : decode cL_canopy 100 = .ok (.aload_n 0, 1) := by decide +kernel
theorem dL_canopy_101 : decode cL_canopy 101 = .ok (.iconst 4, 1) := by decide +kernel
theorem dL_canopy_102 : decode cL_canopy 102 = .ok (.invokestatic 12, 3) := by decide +kernel
theorem dL_canopy_105 : decode cL_canopy 105 = .ok (.bipush 12, 2) := by decide +kernel
theorem dL_canopy_107 : decode cL_canopy 107 = .ok (.invokestatic 18, 3) := by decide +kernel
theorem dL_canopy_110 : decode cL_canopy 110 = .ok (.iadd, 1) := by decide +kernel
theorem dL_canopy_111 : decode cL_canopy 111 = .ok (.istore 4, 2) := by decide +kernel
theorem dL_canopy_113 : decode cL_canopy 113 = .ok (.iconst 0, 1) := by decide +kernel
theorem dL_canopy_114 : decode cL_canopy 114 = .ok (.istore 5, 2) := by decide +kernel
theorem dL_canopy_116 : decode cL_canopy 116 = .ok (.iload 5, 2) := by decide +kernel
theorem dL_canopy_118 : decode cL_canopy 118 = .ok (.iload 4, 2) := by decide +kernel
theorem dL_canopy_120 : decode cL_canopy 120 = .ok (.if_icmp .ge 88, 3) := by decide +kernel
theorem dL_canopy_123 : decode cL_canopy 123 = .ok (.aload_n 0, 1) := by decide +kernel
theorem dL_canopy_124 : decode cL_canopy 124 = .ok (.iconst 5, 1) := by decide +kernel
theorem dL_canopy_125 : decode cL_canopy 125 = .ok (.iload 5, 2) := by decide +kernel
theorem dL_canopy_127 : decode cL_canopy 127 = .ok (.iconst 4, 1) := by decide +kernel
theorem dL_canopy_128 : decode cL_canopy 128 = .ok (.irem, 1) := by decide +kernel
theorem dL_canopy_129 : decode cL_canopy 129 = .ok (.iadd, 1) := by decide +kernel
theorem dL_canopy_130 : decode cL_canopy 130 = .ok (.invokestatic 12, 3) := by decide +kernel
theorem dL_canopy_133 : decode cL_canopy 133 = .ok (.iload 5, 2) := by decide +kernel
theorem dL_canopy_135 : decode cL_canopy 135 = .ok (.iconst 4, 1) := by decide +kernel
theorem dL_canopy_136 : decode cL_canopy 136 = .ok (.idiv, 1) := by decide +kernel
theorem dL_canopy_137 : decode cL_canopy 137 = .ok (.bipush 9, 2) := by decide +kernel
theorem dL_canopy_139 : decode cL_canopy 139 = .ok (.imul, 1) := by decide +kernel
theorem dL_canopy_140 : decode cL_canopy 140 = .ok (.ishr, 1) := by decide +kernel
theorem dL_canopy_141 : decode cL_canopy 141 = .ok (.istore 6, 2) := by decide +kernel
theorem dL_canopy_143 : decode cL_canopy 143 = .ok (.iload 6, 2) := by decide +kernel
theorem dL_canopy_145 : decode cL_canopy 145 = .ok (.iload_n 3, 1) := by decide +kernel
theorem dL_canopy_146 : decode cL_canopy 146 = .ok (.iconst 1, 1) := by decide +kernel
theorem dL_canopy_147 : decode cL_canopy 147 = .ok (.isub, 1) := by decide +kernel
theorem dL_canopy_148 : decode cL_canopy 148 = .ok (.invokestatic 18, 3) := by decide +kernel
theorem dL_canopy_151 : decode cL_canopy 151 = .ok (.istore 7, 2) := by decide +kernel
theorem dL_canopy_153 : decode cL_canopy 153 = .ok (.aload_n 2, 1) := by decide +kernel
theorem dL_canopy_154 : decode cL_canopy 154 = .ok (.iload 7, 2) := by decide +kernel
theorem dL_canopy_156 : decode cL_canopy 156 = .ok (.iload 7, 2) := by decide +kernel
theorem dL_canopy_158 : decode cL_canopy 158 = .ok (.iconst 1, 1) := by decide +kernel
theorem dL_canopy_159 : decode cL_canopy 159 = .ok (.iadd, 1) := by decide +kernel
theorem dL_canopy_160 : decode cL_canopy 160 = .ok (.iload 6, 2) := by decide +kernel
theorem dL_canopy_162 : decode cL_canopy 162 = .ok (.iconst 4, 1) := by decide +kernel
theorem dL_canopy_163 : decode cL_canopy 163 = .ok (.ishr, 1) := by decide +kernel
theorem dL_canopy_164 : decode cL_canopy 164 = .ok (.iload_n 3, 1) := by decide +kernel
theorem dL_canopy_165 : decode cL_canopy 165 = .ok (.iload 7, 2) := by decide +kernel
theorem dL_canopy_167 : decode cL_canopy 167 = .ok (.isub, 1) := by decide +kernel
theorem dL_canopy_168 : decode cL_canopy 168 = .ok (.iconst 1, 1) := by decide +kernel
theorem dL_canopy_169 : decode cL_canopy 169 = .ok (.isub, 1) := by decide +kernel
theorem dL_canopy_170 : decode cL_canopy 170 = .ok (.invokestatic 18, 3) := by decide +kernel
theorem dL_canopy_173 : decode cL_canopy 173 = .ok (.iadd, 1) := by decide +kernel
theorem dL_canopy_174 : decode cL_canopy 174 = .ok (.bipush 60, 2) := by decide +kernel
theorem dL_canopy_176 : decode cL_canopy 176 = .ok (.iload 6, 2) := by decide +kernel
theorem dL_canopy_178 : decode cL_canopy 178 = .ok (.bipush 6, 2) := by decide +kernel
theorem dL_canopy_180 : decode cL_canopy 180 = .ok (.ishr, 1) := by decide +kernel
theorem dL_canopy_181 : decode cL_canopy 181 = .ok (.bipush 91, 2) := by decide +kernel
theorem dL_canopy_183 : decode cL_canopy 183 = .ok (.invokestatic 18, 3) := by decide +kernel
theorem dL_canopy_186 : decode cL_canopy 186 = .ok (.iadd, 1) := by decide +kernel
theorem dL_canopy_187 : decode cL_canopy 187 = .ok (.iconst 1, 1) := by decide +kernel
theorem dL_canopy_188 : decode cL_canopy 188 = .ok (.iload 6, 2) := by decide +kernel
theorem dL_canopy_190 : decode cL_canopy 190 = .ok (.bipush 8, 2) := by decide +kernel
theorem dL_canopy_192 : decode cL_canopy 192 = .ok (.ishr, 1) := by decide +kernel
theorem dL_canopy_193 : decode cL_canopy 193 = .ok (.iconst 3, 1) := by decide +kernel
theorem dL_canopy_194 : decode cL_canopy 194 = .ok (.invokestatic 18, 3) := by decide +kernel
theorem dL_canopy_197 : decode cL_canopy 197 = .ok (.iadd, 1) := by decide +kernel
theorem dL_canopy_198 : decode cL_canopy 198 = .ok (.invokevirtual 26, 3) := by decide +kernel
theorem dL_canopy_201 : decode cL_canopy 201 = .ok (.pop, 1) := by decide +kernel
theorem dL_canopy_202 : decode cL_canopy 202 = .ok (.iinc 5 1, 3) := by decide +kernel
theorem dL_canopy_205 : decode cL_canopy 205 = .ok (.goto (-89), 3) := by decide +kernel
theorem dL_canopy_208 : decode cL_canopy 208 = .ok (.iconst 0, 1) := by decide +kernel
theorem dL_canopy_209 : decode cL_canopy 209 = .ok (.istore 5, 2) := by decide +kernel
theorem dL_canopy_211 : decode cL_canopy 211 = .ok (.iload 5, 2) := by decide +kernel
theorem dL_canopy_213 : decode cL_canopy 213 = .ok (.bipush 12, 2) := by decide +kernel
theorem dL_canopy_215 : decode cL_canopy 215 = .ok (.if_icmp .ge 52, 3) := by decide +kernel
theorem dL_canopy_218 : decode cL_canopy 218 = .ok (.aload_n 2, 1) := by decide +kernel
theorem dL_canopy_219 : decode cL_canopy 219 = .ok (.iload 5, 2) := by decide +kernel
theorem dL_canopy_221 : decode cL_canopy 221 = .ok (.aload_n 0, 1) := by decide +kernel
theorem dL_canopy_222 : decode cL_canopy 222 = .ok (.bipush 9, 2) := by decide +kernel
theorem dL_canopy_224 : decode cL_canopy 224 = .ok (.invokestatic 12, 3) := by decide +kernel
theorem dL_canopy_227 : decode cL_canopy 227 = .ok (.iconst 2, 1) := by decide +kernel
theorem dL_canopy_228 : decode cL_canopy 228 = .ok (.iload 5, 2) := by decide +kernel
theorem dL_canopy_230 : decode cL_canopy 230 = .ok (.imul, 1) := by decide +kernel
theorem dL_canopy_231 : decode cL_canopy 231 = .ok (.ishr, 1) := by decide +kernel
theorem dL_canopy_232 : decode cL_canopy 232 = .ok (.iconst 3, 1) := by decide +kernel
theorem dL_canopy_233 : decode cL_canopy 233 = .ok (.invokestatic 18, 3) := by decide +kernel
theorem dL_canopy_236 : decode cL_canopy 236 = .ok (.ifCond .le 7, 3) := by decide +kernel
theorem dL_canopy_239 : decode cL_canopy 239 = .ok (.iconst 0, 1) := by decide +kernel
theorem dL_canopy_240 : decode cL_canopy 240 = .ok (.goto 17, 3) := by decide +kernel
theorem dL_canopy_243 : decode cL_canopy 243 = .ok (.aload_n 0, 1) := by decide +kernel
theorem dL_canopy_244 : decode cL_canopy 244 = .ok (.bipush 9, 2) := by decide +kernel
theorem dL_canopy_246 : decode cL_canopy 246 = .ok (.invokestatic 12, 3) := by decide +kernel
theorem dL_canopy_249 : decode cL_canopy 249 = .ok (.iload 5, 2) := by decide +kernel
theorem dL_canopy_251 : decode cL_canopy 251 = .ok (.ishr, 1) := by decide +kernel
theorem dL_canopy_252 : decode cL_canopy 252 = .ok (.bipush 10, 2) := by decide +kernel
theorem dL_canopy_254 : decode cL_canopy 254 = .ok (.invokestatic 18, 3) := by decide +kernel
theorem dL_canopy_257 : decode cL_canopy 257 = .ok (.invokevirtual 30, 3) := by decide +kernel
theorem dL_canopy_260 : decode cL_canopy 260 = .ok (.pop, 1) := by decide +kernel
theorem dL_canopy_261 : decode cL_canopy 261 = .ok (.iinc 5 1, 3) := by decide +kernel
theorem dL_canopy_264 : decode cL_canopy 264 = .ok (.goto (-53), 3) := by decide +kernel
theorem dL_canopy_267 : decode cL_canopy 267 = .ok (.iconst 0, 1) := by decide +kernel
theorem dL_canopy_268 : decode cL_canopy 268 = .ok (.istore 5, 2) := by decide +kernel
theorem dL_canopy_270 : decode cL_canopy 270 = .ok (.iload 5, 2) := by decide +kernel
theorem dL_canopy_272 : decode cL_canopy 272 = .ok (.aload_n 0, 1) := by decide +kernel
theorem dL_canopy_273 : decode cL_canopy 273 = .ok (.bipush 10, 2) := by decide +kernel
theorem dL_canopy_275 : decode cL_canopy 275 = .ok (.invokestatic 12, 3) := by decide +kernel
theorem dL_canopy_278 : decode cL_canopy 278 = .ok (.bipush 9, 2) := by decide +kernel
theorem dL_canopy_280 : decode cL_canopy 280 = .ok (.invokestatic 18, 3) := by decide +kernel
theorem dL_canopy_283 : decode cL_canopy 283 = .ok (.if_icmp .ge 79, 3) := by decide +kernel
theorem dL_canopy_286 : decode cL_canopy 286 = .ok (.iload_n 1, 1) := by decide +kernel
theorem dL_canopy_287 : decode cL_canopy 287 = .ok (.ifCond .eq 75, 3) := by decide +kernel
theorem dL_canopy_290 : decode cL_canopy 290 = .ok (.aload_n 0, 1) := by decide +kernel
theorem dL_canopy_291 : decode cL_canopy 291 = .ok (.bipush 11, 2) := by decide +kernel
theorem dL_canopy_293 : decode cL_canopy 293 = .ok (.iload 5, 2) := by decide +kernel
theorem dL_canopy_295 : decode cL_canopy 295 = .ok (.iconst 4, 1) := by decide +kernel
theorem dL_canopy_296 : decode cL_canopy 296 = .ok (.irem, 1) := by decide +kernel
theorem dL_canopy_297 : decode cL_canopy 297 = .ok (.iadd, 1) := by decide +kernel
theorem dL_canopy_298 : decode cL_canopy 298 = .ok (.invokestatic 12, 3) := by decide +kernel
theorem dL_canopy_301 : decode cL_canopy 301 = .ok (.iload 5, 2) := by decide +kernel
theorem dL_canopy_303 : decode cL_canopy 303 = .ok (.iconst 4, 1) := by decide +kernel
theorem dL_canopy_304 : decode cL_canopy 304 = .ok (.idiv, 1) := by decide +kernel
theorem dL_canopy_305 : decode cL_canopy 305 = .ok (.bipush 9, 2) := by decide +kernel
theorem dL_canopy_307 : decode cL_canopy 307 = .ok (.imul, 1) := by decide +kernel
theorem dL_canopy_308 : decode cL_canopy 308 = .ok (.ishr, 1) := by decide +kernel
theorem dL_canopy_309 : decode cL_canopy 309 = .ok (.istore 6, 2) := by decide +kernel
theorem dL_canopy_311 : decode cL_canopy 311 = .ok (.aload_n 2, 1) := by decide +kernel
theorem dL_canopy_312 : decode cL_canopy 312 = .ok (.iload 6, 2) := by decide +kernel
theorem dL_canopy_314 : decode cL_canopy 314 = .ok (.iload_n 3, 1) := by decide +kernel
theorem dL_canopy_315 : decode cL_canopy 315 = .ok (.iconst 1, 1) := by decide +kernel
theorem dL_canopy_316 : decode cL_canopy 316 = .ok (.isub, 1) := by decide +kernel
theorem dL_canopy_317 : decode cL_canopy 317 = .ok (.invokestatic 18, 3) := by decide +kernel
theorem dL_canopy_320 : decode cL_canopy 320 = .ok (.iload 6, 2) := by decide +kernel
theorem dL_canopy_322 : decode cL_canopy 322 = .ok (.iconst 4, 1) := by decide +kernel
theorem dL_canopy_323 : decode cL_canopy 323 = .ok (.ishr, 1) := by decide +kernel
theorem dL_canopy_324 : decode cL_canopy 324 = .ok (.iload_n 3, 1) := by decide +kernel
theorem dL_canopy_325 : decode cL_canopy 325 = .ok (.invokestatic 18, 3) := by decide +kernel
theorem dL_canopy_328 : decode cL_canopy 328 = .ok (.bipush 20, 2) := by decide +kernel
theorem dL_canopy_330 : decode cL_canopy 330 = .ok (.iload 6, 2) := by decide +kernel
theorem dL_canopy_332 : decode cL_canopy 332 = .ok (.iconst 5, 1) := by decide +kernel
theorem dL_canopy_333 : decode cL_canopy 333 = .ok (.ishr, 1) := by decide +kernel
theorem dL_canopy_334 : decode cL_canopy 334 = .ok (.bipush 101, 2) := by decide +kernel
theorem dL_canopy_336 : decode cL_canopy 336 = .ok (.invokestatic 18, 3) := by decide +kernel
theorem dL_canopy_339 : decode cL_canopy 339 = .ok (.iadd, 1) := by decide +kernel
theorem dL_canopy_340 : decode cL_canopy 340 = .ok (.iconst 1, 1) := by decide +kernel
theorem dL_canopy_341 : decode cL_canopy 341 = .ok (.iload 6, 2) := by decide +kernel
theorem dL_canopy_343 : decode cL_canopy 343 = .ok (.bipush 7, 2) := by decide +kernel
theorem dL_canopy_345 : decode cL_canopy 345 = .ok (.ishr, 1) := by decide +kernel
theorem dL_canopy_346 : decode cL_canopy 346 = .ok (.bipush 60, 2) := by decide +kernel
theorem dL_canopy_348 : decode cL_canopy 348 = .ok (.invokestatic 18, 3) := by decide +kernel
theorem dL_canopy_351 : decode cL_canopy 351 = .ok (.iadd, 1) := by decide +kernel
theorem dL_canopy_352 : decode cL_canopy 352 = .ok (.invokevirtual 33, 3) := by decide +kernel
theorem dL_canopy_355 : decode cL_canopy 355 = .ok (.pop, 1) := by decide +kernel
theorem dL_canopy_356 : decode cL_canopy 356 = .ok (.iinc 5 1, 3) := by decide +kernel
theorem dL_canopy_359 : decode cL_canopy 359 = .ok (.goto (-89), 3) := by decide +kernel
theorem dL_canopy_362 : decode cL_canopy 362 = .ok (.aload_n 2, 1) := by decide +kernel
theorem dL_canopy_363 : decode cL_canopy 363 = .ok (.areturn, 1) := by decide +kernel
theorem dL_law_0 : decode cL_law 0 = .ok (.aload_n 0, 1) := by decide +kernel
theorem dL_law_1 : decode cL_law 1 = .ok (.iconst 1, 1) := by decide +kernel
theorem dL_law_2 : decode cL_law 2 = .ok (.invokestatic 36, 3) := by decide +kernel
theorem dL_law_5 : decode cL_law 5 = .ok (.astore_n 1, 1) := by decide +kernel
theorem dL_law_6 : decode cL_law 6 = .ok (.aload_n 1, 1) := by decide +kernel
theorem dL_law_7 : decode cL_law 7 = .ok (.iconst 1, 1) := by decide +kernel
theorem dL_law_8 : decode cL_law 8 = .ok (.invokevirtual 40, 3) := by decide +kernel
theorem dL_law_11 : decode cL_law 11 = .ok (.istore_n 2, 1) := by decide +kernel
theorem dL_law_12 : decode cL_law 12 = .ok (.iconst 0, 1) := by decide +kernel
theorem dL_law_13 : decode cL_law 13 = .ok (.istore_n 3, 1) := by decide +kernel
theorem dL_law_14 : decode cL_law 14 = .ok (.iload_n 3, 1) := by decide +kernel
theorem dL_law_15 : decode cL_law 15 = .ok (.bipush 45, 2) := by decide +kernel
theorem dL_law_17 : decode cL_law 17 = .ok (.if_icmp .ge 942, 3) := by decide +kernel
theorem dL_law_20 : decode cL_law 20 = .ok (.aload_n 0, 1) := by decide +kernel
theorem dL_law_21 : decode cL_law 21 = .ok (.iload_n 3, 1) := by decide +kernel
theorem dL_law_22 : decode cL_law 22 = .ok (.bipush 16, 2) := by decide +kernel
theorem dL_law_24 : decode cL_law 24 = .ok (.irem, 1) := by decide +kernel
theorem dL_law_25 : decode cL_law 25 = .ok (.invokestatic 12, 3) := by decide +kernel
theorem dL_law_28 : decode cL_law 28 = .ok (.iload_n 3, 1) := by decide +kernel
theorem dL_law_29 : decode cL_law 29 = .ok (.bipush 16, 2) := by decide +kernel
theorem dL_law_31 : decode cL_law 31 = .ok (.idiv, 1) := by decide +kernel
theorem dL_law_32 : decode cL_law 32 = .ok (.bipush 6, 2) := by decide +kernel
theorem dL_law_34 : decode cL_law 34 = .ok (.imul, 1) := by decide +kernel
theorem dL_law_35 : decode cL_law 35 = .ok (.ishr, 1) := by decide +kernel
theorem dL_law_36 : decode cL_law 36 = .ok (.istore 4, 2) := by decide +kernel
theorem dL_law_38 : decode cL_law 38 = .ok (.iload 4, 2) := by decide +kernel
theorem dL_law_40 : decode cL_law 40 = .ok (.iconst 5, 1) := by decide +kernel
theorem dL_law_41 : decode cL_law 41 = .ok (.invokestatic 18, 3) := by decide +kernel
theorem dL_law_44 : decode cL_law 44 = .ok (.ifCond .ne 59, 3) := by decide +kernel
theorem dL_law_47 : decode cL_law 47 = .ok (.aload_n 1, 1) := by decide +kernel
theorem dL_law_48 : decode cL_law 48 = .ok (.iconst 3, 1) := by decide +kernel
theorem dL_law_49 : decode cL_law 49 = .ok (.invokevirtual 40, 3) := by decide +kernel
theorem dL_law_52 : decode cL_law 52 = .ok (.bipush 12, 2) := by decide +kernel
theorem dL_law_54 : decode cL_law 54 = .ok (.if_icmp .ge 49, 3) := by decide +kernel
theorem dL_law_57 : decode cL_law 57 = .ok (.aload_n 1, 1) := by decide +kernel
theorem dL_law_58 : decode cL_law 58 = .ok (.iload 4, 2) := by decide +kernel
theorem dL_law_60 : decode cL_law 60 = .ok (.iconst 3, 1) := by decide +kernel
theorem dL_law_61 : decode cL_law 61 = .ok (.ishr, 1) := by decide +kernel
theorem dL_law_62 : decode cL_law 62 = .ok (.iload_n 2, 1) := by decide +kernel
theorem dL_law_63 : decode cL_law 63 = .ok (.invokestatic 18, 3) := by decide +kernel
theorem dL_law_66 : decode cL_law 66 = .ok (.iload 4, 2) := by decide +kernel
theorem dL_law_68 : decode cL_law 68 = .ok (.bipush 6, 2) := by decide +kernel
theorem dL_law_70 : decode cL_law 70 = .ok (.ishr, 1) := by decide +kernel
theorem dL_law_71 : decode cL_law 71 = .ok (.iload_n 2, 1) := by decide +kernel
theorem dL_law_72 : decode cL_law 72 = .ok (.invokestatic 18, 3) := by decide +kernel
theorem dL_law_75 : decode cL_law 75 = .ok (.bipush 20, 2) := by decide +kernel
theorem dL_law_77 : decode cL_law 77 = .ok (.iload 4, 2) := by decide +kernel
theorem dL_law_79 : decode cL_law 79 = .ok (.iconst 4, 1) := by decide +kernel
theorem dL_law_80 : decode cL_law 80 = .ok (.ishr, 1) := by decide +kernel
theorem dL_law_81 : decode cL_law 81 = .ok (.bipush 101, 2) := by decide +kernel
theorem dL_law_83 : decode cL_law 83 = .ok (.invokestatic 18, 3) := by decide +kernel
theorem dL_law_86 : decode cL_law 86 = .ok (.iadd, 1) := by decide +kernel
theorem dL_law_87 : decode cL_law 87 = .ok (.iconst 1, 1) := by decide +kernel
theorem dL_law_88 : decode cL_law 88 = .ok (.iload 4, 2) := by decide +kernel
theorem dL_law_90 : decode cL_law 90 = .ok (.bipush 7, 2) := by decide +kernel
theorem dL_law_92 : decode cL_law 92 = .ok (.ishr, 1) := by decide +kernel
theorem dL_law_93 : decode cL_law 93 = .ok (.bipush 60, 2) := by decide +kernel
theorem dL_law_95 : decode cL_law 95 = .ok (.invokestatic 18, 3) := by decide +kernel
theorem dL_law_98 : decode cL_law 98 = .ok (.iadd, 1) := by decide +kernel
theorem dL_law_99 : decode cL_law 99 = .ok (.invokevirtual 33, 3) := by decide +kernel
theorem dL_law_102 : decode cL_law 102 = .ok (.pop, 1) := by decide +kernel
theorem dL_law_103 : decode cL_law 103 = .ok (.iload 4, 2) := by decide +kernel
theorem dL_law_105 : decode cL_law 105 = .ok (.bipush 9, 2) := by decide +kernel
theorem dL_law_107 : decode cL_law 107 = .ok (.invokestatic 18, 3) := by decide +kernel
theorem dL_law_110 : decode cL_law 110 = .ok (.iconst 1, 1) := by decide +kernel
theorem dL_law_111 : decode cL_law 111 = .ok (.if_icmp .ne 27, 3) := by decide +kernel
theorem dL_law_114 : decode cL_law 114 = .ok (.aload_n 1, 1) := by decide +kernel
theorem dL_law_115 : decode cL_law 115 = .ok (.iload 4, 2) := by decide +kernel
theorem dL_law_117 : decode cL_law 117 = .ok (.iconst 3, 1) := by decide +kernel
theorem dL_law_118 : decode cL_law 118 = .ok (.ishr, 1) := by decide +kernel
theorem dL_law_119 : decode cL_law 119 = .ok (.bipush 12, 2) := by decide +kernel
theorem dL_law_121 : decode cL_law 121 = .ok (.invokestatic 18, 3) := by decide +kernel
theorem dL_law_124 : decode cL_law 124 = .ok (.iload 4, 2) := by decide +kernel
theorem dL_law_126 : decode cL_law 126 = .ok (.bipush 6, 2) := by decide +kernel
theorem dL_law_128 : decode cL_law 128 = .ok (.ishr, 1) := by decide +kernel
theorem dL_law_129 : decode cL_law 129 = .ok (.bipush 10, 2) := by decide +kernel
theorem dL_law_131 : decode cL_law 131 = .ok (.invokestatic 18, 3) := by decide +kernel
theorem dL_law_134 : decode cL_law 134 = .ok (.invokevirtual 30, 3) := by decide +kernel
theorem dL_law_137 : decode cL_law 137 = .ok (.pop, 1) := by decide +kernel
theorem dL_law_138 : decode cL_law 138 = .ok (.iload 4, 2) := by decide +kernel
theorem dL_law_140 : decode cL_law 140 = .ok (.bipush 9, 2) := by decide +kernel
theorem dL_law_142 : decode cL_law 142 = .ok (.invokestatic 18, 3) := by decide +kernel
theorem dL_law_145 : decode cL_law 145 = .ok (.iconst 2, 1) := by decide +kernel
theorem dL_law_146 : decode cL_law 146 = .ok (.if_icmp .ne 35, 3) := by decide +kernel
theorem dL_law_149 : decode cL_law 149 = .ok (.iload 4, 2) := by decide +kernel
theorem dL_law_151 : decode cL_law 151 = .ok (.iconst 3, 1) := by decide +kernel
theorem dL_law_152 : decode cL_law 152 = .ok (.ishr, 1) := by decide +kernel
theorem dL_law_153 : decode cL_law 153 = .ok (.aload_n 1, 1) := by decide +kernel
theorem dL_law_154 : decode cL_law 154 = .ok (.iconst 2, 1) := by decide +kernel
theorem dL_law_155 : decode cL_law 155 = .ok (.invokevirtual 40, 3) := by decide +kernel
theorem dL_law_158 : decode cL_law 158 = .ok (.invokestatic 18, 3) := by decide +kernel
theorem dL_law_161 : decode cL_law 161 = .ok (.istore 5, 2) := by decide +kernel
theorem dL_law_163 : decode cL_law 163 = .ok (.aload_n 1, 1) := by decide +kernel
theorem dL_law_164 : decode cL_law 164 = .ok (.iload 5, 2) := by decide +kernel
theorem dL_law_166 : decode cL_law 166 = .ok (.iconst 5, 1) := by decide +kernel
theorem dL_law_167 : decode cL_law 167 = .ok (.invokevirtual 44, 3) := by decide +kernel
theorem dL_law_170 : decode cL_law 170 = .ok (.iconst 3, 1) := by decide +kernel
theorem dL_law_171 : decode cL_law 171 = .ok (.if_icmp .ge 10, 3) := by decide +kernel
theorem dL_law_174 : decode cL_law 174 = .ok (.aload_n 1, 1) := by decide +kernel
theorem dL_law_175 : decode cL_law 175 = .ok (.iload 5, 2) := by decide +kernel
theorem dL_law_177 : decode cL_law 177 = .ok (.invokevirtual 47, 3) := by decide +kernel
theorem dL_law_180 : decode cL_law 180 = .ok (.pop, 1) := by decide +kernel
theorem dL_law_181 : decode cL_law 181 = .ok (.aload_n 1, 1) := by decide +kernel
theorem dL_law_182 : decode cL_law 182 = .ok (.iconst 3, 1) := by decide +kernel
theorem dL_law_183 : decode cL_law 183 = .ok (.invokevirtual 40, 3) := by decide +kernel
theorem dL_law_186 : decode cL_law 186 = .ok (.istore 5, 2) := by decide +kernel
theorem dL_law_188 : decode cL_law 188 = .ok (.aload_n 1, 1) := by decide +kernel
theorem dL_law_189 : decode cL_law 189 = .ok (.invokevirtual 50, 3) := by decide +kernel
theorem dL_law_192 : decode cL_law 192 = .ok (.lstore 6, 2) := by decide +kernel
theorem dL_law_194 : decode cL_law 194 = .ok (.iload_n 3, 1) := by decide +kernel
theorem dL_law_195 : decode cL_law 195 = .ok (.bipush 6, 2) := by decide +kernel
theorem dL_law_197 : decode cL_law 197 = .ok (.irem, 1) := by decide +kernel
theorem dL_law_198 : decode cL_law 198 = .ok (.ifCond .ne 19, 3) := by decide +kernel
theorem dL_law_201 : decode cL_law 201 = .ok (.aload_n 1, 1) := by decide +kernel
theorem dL_law_202 : decode cL_law 202 = .ok (.iconst 1, 1) := by decide +kernel
theorem dL_law_203 : decode cL_law 203 = .ok (.iload 4, 2) := by decide +kernel
theorem dL_law_205 : decode cL_law 205 = .ok (.iconst 4, 1) := by decide +kernel
theorem dL_law_206 : decode cL_law 206 = .ok (.ishr, 1) := by decide +kernel
theorem dL_law_207 : decode cL_law 207 = .ok (.bipush 8, 2) := by decide +kernel
theorem dL_law_209 : decode cL_law 209 = .ok (.invokestatic 18, 3) := by decide +kernel
theorem dL_law_212 : decode cL_law 212 = .ok (.iadd, 1) := by decide +kernel
theorem dL_law_213 : decode cL_law 213 = .ok (.invokevirtual 54, 3) := by decide +kernel
theorem dL_law_216 : decode cL_law 216 = .ok (.pop, 1) := by decide +kernel
theorem dL_law_217 : decode cL_law 217 = .ok (.iload 5, 2) := by decide +kernel
theorem dL_law_219 : decode cL_law 219 = .ok (.ifCond .le 18, 3) := by decide +kernel
theorem dL_law_222 : decode cL_law 222 = .ok (.aload_n 1, 1) := by decide +kernel
theorem dL_law_223 : decode cL_law 223 = .ok (.iload 4, 2) := by decide +kernel
theorem dL_law_225 : decode cL_law 225 = .ok (.bipush 7, 2) := by decide +kernel
theorem dL_law_227 : decode cL_law 227 = .ok (.ishr, 1) := by decide +kernel
theorem dL_law_228 : decode cL_law 228 = .ok (.iload 5, 2) := by decide +kernel
theorem dL_law_230 : decode cL_law 230 = .ok (.invokestatic 18, 3) := by decide +kernel
theorem dL_law_233 : decode cL_law 233 = .ok (.invokevirtual 57, 3) := by decide +kernel
theorem dL_law_236 : decode cL_law 236 = .ok (.pop, 1) := by decide +kernel
theorem dL_law_237 : decode cL_law 237 = .ok (.aload_n 1, 1) := by decide +kernel
theorem dL_law_238 : decode cL_law 238 = .ok (.iload 4, 2) := by decide +kernel
theorem dL_law_240 : decode cL_law 240 = .ok (.iconst 3, 1) := by decide +kernel
theorem dL_law_241 : decode cL_law 241 = .ok (.ishr, 1) := by decide +kernel
theorem dL_law_242 : decode cL_law 242 = .ok (.iload_n 2, 1) := by decide +kernel
theorem dL_law_243 : decode cL_law 243 = .ok (.invokestatic 18, 3) := by decide +kernel
theorem dL_law_246 : decode cL_law 246 = .ok (.iload 4, 2) := by decide +kernel
theorem dL_law_248 : decode cL_law 248 = .ok (.iconst 5, 1) := by decide +kernel
theorem dL_law_249 : decode cL_law 249 = .ok (.ishr, 1) := by decide +kernel
theorem dL_law_250 : decode cL_law 250 = .ok (.iload_n 2, 1) := by decide +kernel
theorem dL_law_251 : decode cL_law 251 = .ok (.invokestatic 18, 3) := by decide +kernel
theorem dL_law_254 : decode cL_law 254 = .ok (.bipush 20, 2) := by decide +kernel
theorem dL_law_256 : decode cL_law 256 = .ok (.iload 4, 2) := by decide +kernel
theorem dL_law_258 : decode cL_law 258 = .ok (.bipush 6, 2) := by decide +kernel
theorem dL_law_260 : decode cL_law 260 = .ok (.ishr, 1) := by decide +kernel
theorem dL_law_261 : decode cL_law 261 = .ok (.bipush 101, 2) := by decide +kernel
theorem dL_law_263 : decode cL_law 263 = .ok (.invokestatic 18, 3) := by decide +kernel
theorem dL_law_266 : decode cL_law 266 = .ok (.iadd, 1) := by decide +kernel
theorem dL_law_267 : decode cL_law 267 = .ok (.invokevirtual 60, 3) := by decide +kernel
theorem dL_law_270 : decode cL_law 270 = .ok (.pop, 1) := by decide +kernel
theorem dL_law_271 : decode cL_law 271 = .ok (.aload_n 1, 1) := by decide +kernel
theorem dL_law_272 : decode cL_law 272 = .ok (.invokevirtual 50, 3) := by decide +kernel
theorem dL_law_275 : decode cL_law 275 = .ok (.lload 6, 2) := by decide +kernel
theorem dL_law_277 : decode cL_law 277 = .ok (.lcmp, 1) := by decide +kernel
theorem dL_law_278 : decode cL_law 278 = .ok (.ifCond .eq 5, 3) := by decide +kernel
theorem dL_law_281 : decode cL_law 281 = .ok (.iconst 0, 1) := by decide +kernel
theorem dL_law_282 : decode cL_law 282 = .ok (.ireturn, 1) := by decide +kernel
theorem dL_law_283 : decode cL_law 283 = .ok (.bipush 12, 2) := by decide +kernel
theorem dL_law_285 : decode cL_law 285 = .ok (.newarray .int, 2) := by decide +kernel
theorem dL_law_287 : decode cL_law 287 = .ok (.astore 8, 2) := by decide +kernel
theorem dL_law_289 : decode cL_law 289 = .ok (.bipush 12, 2) := by decide +kernel
theorem dL_law_291 : decode cL_law 291 = .ok (.newarray .int, 2) := by decide +kernel
theorem dL_law_293 : decode cL_law 293 = .ok (.astore 9, 2) := by decide +kernel
theorem dL_law_295 : decode cL_law 295 = .ok (.iconst 0, 1) := by decide +kernel
theorem dL_law_296 : decode cL_law 296 = .ok (.istore 10, 2) := by decide +kernel
theorem dL_law_298 : decode cL_law 298 = .ok (.iload 10, 2) := by decide +kernel
theorem dL_law_300 : decode cL_law 300 = .ok (.iload 5, 2) := by decide +kernel
theorem dL_law_302 : decode cL_law 302 = .ok (.if_icmp .ge 34, 3) := by decide +kernel
theorem dL_law_305 : decode cL_law 305 = .ok (.aload 8, 2) := by decide +kernel
theorem dL_law_307 : decode cL_law 307 = .ok (.iload 10, 2) := by decide +kernel
theorem dL_law_309 : decode cL_law 309 = .ok (.aload_n 1, 1) := by decide +kernel
theorem dL_law_310 : decode cL_law 310 = .ok (.iload 10, 2) := by decide +kernel
theorem dL_law_312 : decode cL_law 312 = .ok (.iconst 3, 1) := by decide +kernel
theorem dL_law_313 : decode cL_law 313 = .ok (.invokevirtual 63, 3) := by decide +kernel
theorem dL_law_316 : decode cL_law 316 = .ok (.iastore, 1) := by decide +kernel
theorem dL_law_317 : decode cL_law 317 = .ok (.aload 9, 2) := by decide +kernel
theorem dL_law_319 : decode cL_law 319 = .ok (.iload 10, 2) := by decide +kernel
theorem dL_law_321 : decode cL_law 321 = .ok (.aload_n 1, 1) := by decide +kernel
theorem dL_law_322 : decode cL_law 322 = .ok (.iload 10, 2) := by decide +kernel
theorem dL_law_324 : decode cL_law 324 = .ok (.bipush 9, 2) := by decide +kernel
theorem dL_law_326 : decode cL_law 326 = .ok (.invokevirtual 63, 3) := by decide +kernel
theorem dL_law_329 : decode cL_law 329 = .ok (.iastore, 1) := by decide +kernel
theorem dL_law_330 : decode cL_law 330 = .ok (.iinc 10 1, 3) := by decide +kernel
theorem dL_law_333 : decode cL_law 333 = .ok (.goto (-35), 3) := by decide +kernel
theorem dL_law_336 : decode cL_law 336 = .ok (.aload_n 1, 1) := by decide +kernel
theorem dL_law_337 : decode cL_law 337 = .ok (.bipush 6, 2) := by decide +kernel
theorem dL_law_339 : decode cL_law 339 = .ok (.invokevirtual 40, 3) := by decide +kernel
theorem dL_law_342 : decode cL_law 342 = .ok (.istore 10, 2) := by decide +kernel
theorem dL_law_344 : decode cL_law 344 = .ok (.iconst 1, 1) := by decide +kernel
theorem dL_law_345 : decode cL_law 345 = .ok (.iload 4, 2) := by decide +kernel
theorem dL_law_347 : decode cL_law 347 = .ok (.iconst 5, 1) := by decide +kernel
theorem dL_law_348 : decode cL_law 348 = .ok (.ishr, 1) := by decide +kernel
theorem dL_law_349 : decode cL_law 349 = .ok (.iconst 3, 1) := by decide +kernel
theorem dL_law_350 : decode cL_law 350 = .ok (.invokestatic 18, 3) := by decide +kernel
theorem dL_law_353 : decode cL_law 353 = .ok (.iadd, 1) := by decide +kernel
theorem dL_law_354 : decode cL_law 354 = .ok (.istore 11, 2) := by decide +kernel
theorem dL_law_356 : decode cL_law 356 = .ok (.aload_n 1, 1) := by decide +kernel
theorem dL_law_357 : decode cL_law 357 = .ok (.iload 11, 2) := by decide +kernel
theorem dL_law_359 : decode cL_law 359 = .ok (.invokevirtual 66, 3) := by decide +kernel
theorem dL_law_362 : decode cL_law 362 = .ok (.istore 12, 2) := by decide +kernel
theorem dL_law_364 : decode cL_law 364 = .ok (.aload_n 1, 1) := by decide +kernel
theorem dL_law_365 : decode cL_law 365 = .ok (.bipush 6, 2) := by decide +kernel
theorem dL_law_367 : decode cL_law 367 = .ok (.invokevirtual 40, 3) := by decide +kernel
theorem dL_law_370 : decode cL_law 370 = .ok (.iload 10, 2) := by decide +kernel
theorem dL_law_372 : decode cL_law 372 = .ok (.iload 12, 2) := by decide +kernel
theorem dL_law_374 : decode cL_law 374 = .ok (.iadd, 1) := by decide +kernel
theorem dL_law_375 : decode cL_law 375 = .ok (.if_icmp .eq 5, 3) := by decide +kernel
theorem dL_law_378 : decode cL_law 378 = .ok (.iconst 0, 1) := by decide +kernel
theorem dL_law_379 : decode cL_law 379 = .ok (.ireturn, 1) := by decide +kernel
theorem dL_law_380 : decode cL_law 380 = .ok (.iconst 0, 1) := by decide +kernel
theorem dL_law_381 : decode cL_law 381 = .ok (.istore 13, 2) := by decide +kernel
theorem dL_law_383 : decode cL_law 383 = .ok (.iconst 0, 1) := by decide +kernel
theorem dL_law_384 : decode cL_law 384 = .ok (.istore 14, 2) := by decide +kernel
theorem dL_law_386 : decode cL_law 386 = .ok (.iconst 0, 1) := by decide +kernel
theorem dL_law_387 : decode cL_law 387 = .ok (.istore 15, 2) := by decide +kernel
theorem dL_law_389 : decode cL_law 389 = .ok (.iconst 0, 1) := by decide +kernel
theorem dL_law_390 : decode cL_law 390 = .ok (.istore 16, 2) := by decide +kernel
theorem dL_law_392 : decode cL_law 392 = .ok (.iload 16, 2) := by decide +kernel
theorem dL_law_394 : decode cL_law 394 = .ok (.iload 5, 2) := by decide +kernel
theorem dL_law_396 : decode cL_law 396 = .ok (.if_icmp .ge 192, 3) := by decide +kernel
theorem dL_law_399 : decode cL_law 399 = .ok (.aload_n 1, 1) := by decide +kernel
theorem dL_law_400 : decode cL_law 400 = .ok (.iload 16, 2) := by decide +kernel
theorem dL_law_402 : decode cL_law 402 = .ok (.iconst 3, 1) := by decide +kernel
theorem dL_law_403 : decode cL_law 403 = .ok (.invokevirtual 63, 3) := by decide +kernel
theorem dL_law_406 : decode cL_law 406 = .ok (.istore 17, 2) := by decide +kernel
theorem dL_law_408 : decode cL_law 408 = .ok (.aload 8, 2) := by decide +kernel
theorem dL_law_410 : decode cL_law 410 = .ok (.iload 16, 2) := by decide +kernel
theorem dL_law_412 : decode cL_law 412 = .ok (.iaload, 1) := by decide +kernel
theorem dL_law_413 : decode cL_law 413 = .ok (.iconst 1, 1) := by decide +kernel
theorem dL_law_414 : decode cL_law 414 = .ok (.if_icmp .le 13, 3) := by decide +kernel
theorem dL_law_417 : decode cL_law 417 = .ok (.iload 17, 2) := by decide +kernel
theorem dL_law_419 : decode cL_law 419 = .ok (.aload 8, 2) := by decide +kernel
theorem dL_law_421 : decode cL_law 421 = .ok (.iload 16, 2) := by decide +kernel
theorem dL_law_423 : decode cL_law 423 = .ok (.iaload, 1) := by decide +kernel
theorem dL_law_424 : decode cL_law 424 = .ok (.if_icmp .ne 112, 3) := by decide +kernel
theorem dL_law_427 : decode cL_law 427 = .ok (.aload_n 1, 1) := by decide +kernel
theorem dL_law_428 : decode cL_law 428 = .ok (.iload 16, 2) := by decide +kernel
theorem dL_law_430 : decode cL_law 430 = .ok (.bipush 9, 2) := by decide +kernel
theorem dL_law_432 : decode cL_law 432 = .ok (.invokevirtual 63, 3) := by decide +kernel
theorem dL_law_435 : decode cL_law 435 = .ok (.aload 9, 2) := by decide +kernel
theorem dL_law_437 : decode cL_law 437 = .ok (.iload 16, 2) := by decide +kernel
theorem dL_law_439 : decode cL_law 439 = .ok (.iaload, 1) := by decide +kernel
theorem dL_law_440 : decode cL_law 440 = .ok (.if_icmp .lt 96, 3) := by decide +kernel
theorem dL_law_443 : decode cL_law 443 = .ok (.iload 17, 2) := by decide +kernel
theorem dL_law_445 : decode cL_law 445 = .ok (.iconst 2, 1) := by decide +kernel
theorem dL_law_446 : decode cL_law 446 = .ok (.if_icmp .ne 31, 3) := by decide +kernel
theorem dL_law_449 : decode cL_law 449 = .ok (.aload_n 1, 1) := by decide +kernel
theorem dL_law_450 : decode cL_law 450 = .ok (.iload 16, 2) := by decide +kernel
theorem dL_law_452 : decode cL_law 452 = .ok (.iconst 4, 1) := by decide +kernel
theorem dL_law_453 : decode cL_law 453 = .ok (.invokevirtual 63, 3) := by decide +kernel
theorem dL_law_456 : decode cL_law 456 = .ok (.aload_n 1, 1) := by decide +kernel
theorem dL_law_457 : decode cL_law 457 = .ok (.iload 16, 2) := by decide +kernel
theorem dL_law_459 : decode cL_law 459 = .ok (.iconst 2, 1) := by decide +kernel
theorem dL_law_460 : decode cL_law 460 = .ok (.invokevirtual 63, 3) := by decide +kernel
theorem dL_law_463 : decode cL_law 463 = .ok (.if_icmp .ne 73, 3) := by decide +kernel
theorem dL_law_466 : decode cL_law 466 = .ok (.aload_n 1, 1) := by decide +kernel
theorem dL_law_467 : decode cL_law 467 = .ok (.iload 16, 2) := by decide +kernel
theorem dL_law_469 : decode cL_law 469 = .ok (.bipush 10, 2) := by decide +kernel
theorem dL_law_471 : decode cL_law 471 = .ok (.invokevirtual 63, 3) := by decide +kernel
theorem dL_law_474 : decode cL_law 474 = .ok (.ifCond .lt 62, 3) := by decide +kernel
theorem dL_law_477 : decode cL_law 477 = .ok (.iload 17, 2) := by decide +kernel
theorem dL_law_479 : decode cL_law 479 = .ok (.iconst 2, 1) := by decide +kernel
theorem dL_law_480 : decode cL_law 480 = .ok (.if_icmp .eq 15, 3) := by decide +kernel
theorem dL_law_483 : decode cL_law 483 = .ok (.aload_n 1, 1) := by decide +kernel
theorem dL_law_484 : decode cL_law 484 = .ok (.iload 16, 2) := by decide +kernel
theorem dL_law_486 : decode cL_law 486 = .ok (.bipush 10, 2) := by decide +kernel
theorem dL_law_488 : decode cL_law 488 = .ok (.invokevirtual 63, 3) := by decide +kernel
theorem dL_law_491 : decode cL_law 491 = .ok (.iconst (-1), 1) := by decide +kernel
theorem dL_law_492 : decode cL_law 492 = .ok (.if_icmp .ne 44, 3) := by decide +kernel
theorem dL_law_495 : decode cL_law 495 = .ok (.iload 17, 2) := by decide +kernel
theorem dL_law_497 : decode cL_law 497 = .ok (.ifCond .ne 21, 3) := by decide +kernel
theorem dL_law_500 : decode cL_law 500 = .ok (.aload_n 1, 1) := by decide +kernel
theorem dL_law_501 : decode cL_law 501 = .ok (.iload 16, 2) := by decide +kernel
theorem dL_law_503 : decode cL_law 503 = .ok (.bipush 6, 2) := by decide +kernel
theorem dL_law_505 : decode cL_law 505 = .ok (.invokevirtual 63, 3) := by decide +kernel
theorem dL_law_508 : decode cL_law 508 = .ok (.aload_n 1, 1) := by decide +kernel
theorem dL_law_509 : decode cL_law 509 = .ok (.iload 16, 2) := by decide +kernel
theorem dL_law_511 : decode cL_law 511 = .ok (.iconst 1, 1) := by decide +kernel
theorem dL_law_512 : decode cL_law 512 = .ok (.invokevirtual 63, 3) := by decide +kernel
theorem dL_law_515 : decode cL_law 515 = .ok (.if_icmp .ge 21, 3) := by decide +kernel
theorem dL_law_518 : decode cL_law 518 = .ok (.iload 17, 2) := by decide +kernel
theorem dL_law_520 : decode cL_law 520 = .ok (.iconst 1, 1) := by decide +kernel
theorem dL_law_521 : decode cL_law 521 = .ok (.if_icmp .ne 17, 3) := by decide +kernel
theorem dL_law_524 : decode cL_law 524 = .ok (.aload_n 1, 1) := by decide +kernel
theorem dL_law_525 : decode cL_law 525 = .ok (.iload 16, 2) := by decide +kernel
theorem dL_law_527 : decode cL_law 527 = .ok (.bipush 6, 2) := by decide +kernel
theorem dL_law_529 : decode cL_law 529 = .ok (.invokevirtual 63, 3) := by decide +kernel
theorem dL_law_532 : decode cL_law 532 = .ok (.iconst 1, 1) := by decide +kernel
theorem dL_law_533 : decode cL_law 533 = .ok (.if_icmp .ge 5, 3) := by decide +kernel
theorem dL_law_536 : decode cL_law 536 = .ok (.iconst 0, 1) := by decide +kernel
theorem dL_law_537 : decode cL_law 537 = .ok (.ireturn, 1) := by decide +kernel
theorem dL_law_538 : decode cL_law 538 = .ok (.iload 13, 2) := by decide +kernel
theorem dL_law_540 : decode cL_law 540 = .ok (.iload 17, 2) := by decide +kernel
theorem dL_law_542 : decode cL_law 542 = .ok (.ifCond .ne 7, 3) := by decide +kernel
theorem dL_law_545 : decode cL_law 545 = .ok (.iconst 1, 1) := by decide +kernel
theorem dL_law_546 : decode cL_law 546 = .ok (.goto 4, 3) := by decide +kernel
theorem dL_law_549 : decode cL_law 549 = .ok (.iconst 0, 1) := by decide +kernel
theorem dL_law_550 : decode cL_law 550 = .ok (.iadd, 1) := by decide +kernel
theorem dL_law_551 : decode cL_law 551 = .ok (.istore 13, 2) := by decide +kernel
theorem dL_law_553 : decode cL_law 553 = .ok (.iload 14, 2) := by decide +kernel
theorem dL_law_555 : decode cL_law 555 = .ok (.iload 17, 2) := by decide +kernel
theorem dL_law_557 : decode cL_law 557 = .ok (.iconst 1, 1) := by decide +kernel
theorem dL_law_558 : decode cL_law 558 = .ok (.if_icmp .ne 7, 3) := by decide +kernel
theorem dL_law_561 : decode cL_law 561 = .ok (.iconst 1, 1) := by decide +kernel
theorem dL_law_562 : decode cL_law 562 = .ok (.goto 4, 3) := by decide +kernel
theorem dL_law_565 : decode cL_law 565 = .ok (.iconst 0, 1) := by decide +kernel
theorem dL_law_566 : decode cL_law 566 = .ok (.iadd, 1) := by decide +kernel
theorem dL_law_567 : decode cL_law 567 = .ok (.istore 14, 2) := by decide +kernel
theorem dL_law_569 : decode cL_law 569 = .ok (.iload 15, 2) := by decide +kernel
theorem dL_law_571 : decode cL_law 571 = .ok (.aload_n 1, 1) := by decide +kernel
theorem dL_law_572 : decode cL_law 572 = .ok (.iload 16, 2) := by decide +kernel
theorem dL_law_574 : decode cL_law 574 = .ok (.bipush 9, 2) := by decide +kernel
theorem dL_law_576 : decode cL_law 576 = .ok (.invokevirtual 63, 3) := by decide +kernel
theorem dL_law_579 : decode cL_law 579 = .ok (.iadd, 1) := by decide +kernel
theorem dL_law_580 : decode cL_law 580 = .ok (.istore 15, 2) := by decide +kernel
theorem dL_law_582 : decode cL_law 582 = .ok (.iinc 16 1, 3) := by decide +kernel
theorem dL_law_585 : decode cL_law 585 = .ok (.goto (-193), 3) := by decide +kernel
theorem dL_law_588 : decode cL_law 588 = .ok (.iconst 0, 1) := by decide +kernel
theorem dL_law_589 : decode cL_law 589 = .ok (.istore 16, 2) := by decide +kernel
theorem dL_law_591 : decode cL_law 591 = .ok (.iconst 0, 1) := by decide +kernel
theorem dL_law_592 : decode cL_law 592 = .ok (.istore 17, 2) := by decide +kernel
theorem dL_law_594 : decode cL_law 594 = .ok (.iconst 0, 1) := by decide +kernel
theorem dL_law_595 : decode cL_law 595 = .ok (.istore 18, 2) := by decide +kernel
theorem dL_law_597 : decode cL_law 597 = .ok (.iload 18, 2) := by decide +kernel
theorem dL_law_599 : decode cL_law 599 = .ok (.iload_n 2, 1) := by decide +kernel
theorem dL_law_600 : decode cL_law 600 = .ok (.if_icmp .ge 111, 3) := by decide +kernel
theorem dL_law_603 : decode cL_law 603 = .ok (.aload_n 1, 1) := by decide +kernel
theorem dL_law_604 : decode cL_law 604 = .ok (.iload 18, 2) := by decide +kernel
theorem dL_law_606 : decode cL_law 606 = .ok (.iconst 3, 1) := by decide +kernel
theorem dL_law_607 : decode cL_law 607 = .ok (.invokevirtual 69, 3) := by decide +kernel
theorem dL_law_610 : decode cL_law 610 = .ok (.istore 19, 2) := by decide +kernel
theorem dL_law_612 : decode cL_law 612 = .ok (.iload 16, 2) := by decide +kernel
theorem dL_law_614 : decode cL_law 614 = .ok (.iload 19, 2) := by decide +kernel
theorem dL_law_616 : decode cL_law 616 = .ok (.iadd, 1) := by decide +kernel
theorem dL_law_617 : decode cL_law 617 = .ok (.istore 16, 2) := by decide +kernel
theorem dL_law_619 : decode cL_law 619 = .ok (.iload 17, 2) := by decide +kernel
theorem dL_law_621 : decode cL_law 621 = .ok (.aload_n 1, 1) := by decide +kernel
theorem dL_law_622 : decode cL_law 622 = .ok (.iload 18, 2) := by decide +kernel
theorem dL_law_624 : decode cL_law 624 = .ok (.bipush 7, 2) := by decide +kernel
theorem dL_law_626 : decode cL_law 626 = .ok (.invokevirtual 69, 3) := by decide +kernel
theorem dL_law_629 : decode cL_law 629 = .ok (.iadd, 1) := by decide +kernel
theorem dL_law_630 : decode cL_law 630 = .ok (.istore 17, 2) := by decide +kernel
theorem dL_law_632 : decode cL_law 632 = .ok (.iconst 0, 1) := by decide +kernel
theorem dL_law_633 : decode cL_law 633 = .ok (.istore 20, 2) := by decide +kernel
theorem dL_law_635 : decode cL_law 635 = .ok (.iconst 0, 1) := by decide +kernel
theorem dL_law_636 : decode cL_law 636 = .ok (.istore 21, 2) := by decide +kernel
theorem dL_law_638 : decode cL_law 638 = .ok (.iload 21, 2) := by decide +kernel
theorem dL_law_640 : decode cL_law 640 = .ok (.iload 19, 2) := by decide +kernel
theorem dL_law_642 : decode cL_law 642 = .ok (.if_icmp .ge 63, 3) := by decide +kernel
theorem dL_law_645 : decode cL_law 645 = .ok (.aload_n 1, 1) := by decide +kernel
theorem dL_law_646 : decode cL_law 646 = .ok (.iload 18, 2) := by decide +kernel
theorem dL_law_648 : decode cL_law 648 = .ok (.iload 21, 2) := by decide +kernel
theorem dL_law_650 : decode cL_law 650 = .ok (.invokevirtual 72, 3) := by decide +kernel
theorem dL_law_653 : decode cL_law 653 = .ok (.istore 22, 2) := by decide +kernel
theorem dL_law_655 : decode cL_law 655 = .ok (.iload 20, 2) := by decide +kernel
theorem dL_law_657 : decode cL_law 657 = .ok (.iload 22, 2) := by decide +kernel
theorem dL_law_659 : decode cL_law 659 = .ok (.ishr, 1) := by decide +kernel
theorem dL_law_660 : decode cL_law 660 = .ok (.iconst 1, 1) := by decide +kernel
theorem dL_law_661 : decode cL_law 661 = .ok (.iand, 1) := by decide +kernel
theorem dL_law_662 : decode cL_law 662 = .ok (.iconst 1, 1) := by decide +kernel
theorem dL_law_663 : decode cL_law 663 = .ok (.if_icmp .eq 25, 3) := by decide +kernel
theorem dL_law_666 : decode cL_law 666 = .ok (.aload_n 1, 1) := by decide +kernel
theorem dL_law_667 : decode cL_law 667 = .ok (.iload 22, 2) := by decide +kernel
theorem dL_law_669 : decode cL_law 669 = .ok (.iconst 3, 1) := by decide +kernel
theorem dL_law_670 : decode cL_law 670 = .ok (.invokevirtual 63, 3) := by decide +kernel
theorem dL_law_673 : decode cL_law 673 = .ok (.ifCond .ne 15, 3) := by decide +kernel
theorem dL_law_676 : decode cL_law 676 = .ok (.aload_n 1, 1) := by decide +kernel
theorem dL_law_677 : decode cL_law 677 = .ok (.iload 22, 2) := by decide +kernel
theorem dL_law_679 : decode cL_law 679 = .ok (.iconst 4, 1) := by decide +kernel
theorem dL_law_680 : decode cL_law 680 = .ok (.invokevirtual 63, 3) := by decide +kernel
theorem dL_law_683 : decode cL_law 683 = .ok (.iload 18, 2) := by decide +kernel
theorem dL_law_685 : decode cL_law 685 = .ok (.if_icmp .eq 5, 3) := by decide +kernel
theorem dL_law_688 : decode cL_law 688 = .ok (.iconst 0, 1) := by decide +kernel
theorem dL_law_689 : decode cL_law 689 = .ok (.ireturn, 1) := by decide +kernel
theorem dL_law_690 : decode cL_law 690 = .ok (.iload 20, 2) := by decide +kernel
theorem dL_law_692 : decode cL_law 692 = .ok (.iconst 1, 1) := by decide +kernel
theorem dL_law_693 : decode cL_law 693 = .ok (.iload 22, 2) := by decide +kernel
theorem dL_law_695 : decode cL_law 695 = .ok (.ishl, 1) := by decide +kernel
theorem dL_law_696 : decode cL_law 696 = .ok (.ior, 1) := by decide +kernel
theorem dL_law_697 : decode cL_law 697 = .ok (.istore 20, 2) := by decide +kernel
theorem dL_law_699 : decode cL_law 699 = .ok (.iinc 21 1, 3) := by decide +kernel
theorem dL_law_702 : decode cL_law 702 = .ok (.goto (-64), 3) := by decide +kernel
theorem dL_law_705 : decode cL_law 705 = .ok (.iinc 18 1, 3) := by decide +kernel
theorem dL_law_708 : decode cL_law 708 = .ok (.goto (-111), 3) := by decide +kernel
theorem dL_law_711 : decode cL_law 711 = .ok (.iconst 0, 1) := by decide +kernel
theorem dL_law_712 : decode cL_law 712 = .ok (.istore 18, 2) := by decide +kernel
theorem dL_law_714 : decode cL_law 714 = .ok (.iconst 0, 1) := by decide +kernel
theorem dL_law_715 : decode cL_law 715 = .ok (.istore 19, 2) := by decide +kernel
theorem dL_law_717 : decode cL_law 717 = .ok (.iconst 0, 1) := by decide +kernel
theorem dL_law_718 : decode cL_law 718 = .ok (.istore 20, 2) := by decide +kernel
theorem dL_law_720 : decode cL_law 720 = .ok (.iconst 0, 1) := by decide +kernel
theorem dL_law_721 : decode cL_law 721 = .ok (.istore 21, 2) := by decide +kernel
theorem dL_law_723 : decode cL_law 723 = .ok (.iload 21, 2) := by decide +kernel
theorem dL_law_725 : decode cL_law 725 = .ok (.aload_n 1, 1) := by decide +kernel
theorem dL_law_726 : decode cL_law 726 = .ok (.iconst 2, 1) := by decide +kernel
theorem dL_law_727 : decode cL_law 727 = .ok (.invokevirtual 40, 3) := by decide +kernel
theorem dL_law_730 : decode cL_law 730 = .ok (.if_icmp .ge 117, 3) := by decide +kernel
theorem dL_law_733 : decode cL_law 733 = .ok (.iload 18, 2) := by decide +kernel
theorem dL_law_735 : decode cL_law 735 = .ok (.aload_n 1, 1) := by decide +kernel
theorem dL_law_736 : decode cL_law 736 = .ok (.iload 21, 2) := by decide +kernel
theorem dL_law_738 : decode cL_law 738 = .ok (.iconst 5, 1) := by decide +kernel
theorem dL_law_739 : decode cL_law 739 = .ok (.invokevirtual 44, 3) := by decide +kernel
theorem dL_law_742 : decode cL_law 742 = .ok (.iadd, 1) := by decide +kernel
theorem dL_law_743 : decode cL_law 743 = .ok (.istore 18, 2) := by decide +kernel
theorem dL_law_745 : decode cL_law 745 = .ok (.iload 19, 2) := by decide +kernel
theorem dL_law_747 : decode cL_law 747 = .ok (.aload_n 1, 1) := by decide +kernel
theorem dL_law_748 : decode cL_law 748 = .ok (.iload 21, 2) := by decide +kernel
theorem dL_law_750 : decode cL_law 750 = .ok (.bipush 7, 2) := by decide +kernel
theorem dL_law_752 : decode cL_law 752 = .ok (.invokevirtual 44, 3) := by decide +kernel
theorem dL_law_755 : decode cL_law 755 = .ok (.iadd, 1) := by decide +kernel
theorem dL_law_756 : decode cL_law 756 = .ok (.istore 19, 2) := by decide +kernel
theorem dL_law_758 : decode cL_law 758 = .ok (.iload 20, 2) := by decide +kernel
theorem dL_law_760 : decode cL_law 760 = .ok (.aload_n 1, 1) := by decide +kernel
theorem dL_law_761 : decode cL_law 761 = .ok (.iload 21, 2) := by decide +kernel
theorem dL_law_763 : decode cL_law 763 = .ok (.bipush 8, 2) := by decide +kernel
theorem dL_law_765 : decode cL_law 765 = .ok (.invokevirtual 44, 3) := by decide +kernel
theorem dL_law_768 : decode cL_law 768 = .ok (.iadd, 1) := by decide +kernel
theorem dL_law_769 : decode cL_law 769 = .ok (.istore 20, 2) := by decide +kernel
theorem dL_law_771 : decode cL_law 771 = .ok (.aload_n 1, 1) := by decide +kernel
theorem dL_law_772 : decode cL_law 772 = .ok (.iload 21, 2) := by decide +kernel
theorem dL_law_774 : decode cL_law 774 = .ok (.bipush 6, 2) := by decide +kernel
theorem dL_law_776 : decode cL_law 776 = .ok (.invokevirtual 44, 3) := by decide +kernel
theorem dL_law_779 : decode cL_law 779 = .ok (.ifCond .lt 60, 3) := by decide +kernel
theorem dL_law_782 : decode cL_law 782 = .ok (.aload_n 1, 1) := by decide +kernel
theorem dL_law_783 : decode cL_law 783 = .ok (.iload 21, 2) := by decide +kernel
theorem dL_law_785 : decode cL_law 785 = .ok (.bipush 6, 2) := by decide +kernel
theorem dL_law_787 : decode cL_law 787 = .ok (.invokevirtual 44, 3) := by decide +kernel
theorem dL_law_790 : decode cL_law 790 = .ok (.aload_n 1, 1) := by decide +kernel
theorem dL_law_791 : decode cL_law 791 = .ok (.iload 21, 2) := by decide +kernel
theorem dL_law_793 : decode cL_law 793 = .ok (.bipush 7, 2) := by decide +kernel
theorem dL_law_795 : decode cL_law 795 = .ok (.invokevirtual 44, 3) := by decide +kernel
theorem dL_law_798 : decode cL_law 798 = .ok (.iadd, 1) := by decide +kernel
theorem dL_law_799 : decode cL_law 799 = .ok (.aload_n 1, 1) := by decide +kernel
theorem dL_law_800 : decode cL_law 800 = .ok (.iload 21, 2) := by decide +kernel
theorem dL_law_802 : decode cL_law 802 = .ok (.iconst 5, 1) := by decide +kernel
theorem dL_law_803 : decode cL_law 803 = .ok (.invokevirtual 44, 3) := by decide +kernel
theorem dL_law_806 : decode cL_law 806 = .ok (.if_icmp .gt 33, 3) := by decide +kernel
theorem dL_law_809 : decode cL_law 809 = .ok (.aload_n 1, 1) := by decide +kernel
theorem dL_law_810 : decode cL_law 810 = .ok (.iload 21, 2) := by decide +kernel
theorem dL_law_812 : decode cL_law 812 = .ok (.bipush 9, 2) := by decide +kernel
theorem dL_law_814 : decode cL_law 814 = .ok (.invokevirtual 44, 3) := by decide +kernel
theorem dL_law_817 : decode cL_law 817 = .ok (.aload_n 1, 1) := by decide +kernel
theorem dL_law_818 : decode cL_law 818 = .ok (.iload 21, 2) := by decide +kernel
theorem dL_law_820 : decode cL_law 820 = .ok (.bipush 8, 2) := by decide +kernel
theorem dL_law_822 : decode cL_law 822 = .ok (.invokevirtual 44, 3) := by decide +kernel
theorem dL_law_825 : decode cL_law 825 = .ok (.if_icmp .gt 14, 3) := by decide +kernel
theorem dL_law_828 : decode cL_law 828 = .ok (.aload_n 1, 1) := by decide +kernel
theorem dL_law_829 : decode cL_law 829 = .ok (.iload 21, 2) := by decide +kernel
theorem dL_law_831 : decode cL_law 831 = .ok (.iconst 5, 1) := by decide +kernel
theorem dL_law_832 : decode cL_law 832 = .ok (.invokevirtual 44, 3) := by decide +kernel
theorem dL_law_835 : decode cL_law 835 = .ok (.iconst 3, 1) := by decide +kernel
theorem dL_law_836 : decode cL_law 836 = .ok (.if_icmp .le 5, 3) := by decide +kernel
theorem dL_law_839 : decode cL_law 839 = .ok (.iconst 0, 1) := by decide +kernel
theorem dL_law_840 : decode cL_law 840 = .ok (.ireturn, 1) := by decide +kernel
theorem dL_law_841 : decode cL_law 841 = .ok (.iinc 21 1, 3) := by decide +kernel
theorem dL_law_844 : decode cL_law 844 = .ok (.goto (-121), 3) := by decide +kernel
theorem dL_law_847 : decode cL_law 847 = .ok (.iload 16, 2) := by decide +kernel
theorem dL_law_849 : decode cL_law 849 = .ok (.iload 13, 2) := by decide +kernel
theorem dL_law_851 : decode cL_law 851 = .ok (.if_icmp .ne 100, 3) := by decide +kernel
theorem dL_law_854 : decode cL_law 854 = .ok (.iload 13, 2) := by decide +kernel
theorem dL_law_856 : decode cL_law 856 = .ok (.aload_n 1, 1) := by decide +kernel
theorem dL_law_857 : decode cL_law 857 = .ok (.iconst 4, 1) := by decide +kernel
theorem dL_law_858 : decode cL_law 858 = .ok (.invokevirtual 40, 3) := by decide +kernel
theorem dL_law_861 : decode cL_law 861 = .ok (.if_icmp .ne 90, 3) := by decide +kernel
theorem dL_law_864 : decode cL_law 864 = .ok (.iload 14, 2) := by decide +kernel
theorem dL_law_866 : decode cL_law 866 = .ok (.aload_n 1, 1) := by decide +kernel
theorem dL_law_867 : decode cL_law 867 = .ok (.iconst 5, 1) := by decide +kernel
theorem dL_law_868 : decode cL_law 868 = .ok (.invokevirtual 40, 3) := by decide +kernel
theorem dL_law_871 : decode cL_law 871 = .ok (.if_icmp .ne 80, 3) := by decide +kernel
theorem dL_law_874 : decode cL_law 874 = .ok (.iload 19, 2) := by decide +kernel
theorem dL_law_876 : decode cL_law 876 = .ok (.iload 14, 2) := by decide +kernel
theorem dL_law_878 : decode cL_law 878 = .ok (.if_icmp .ne 73, 3) := by decide +kernel
theorem dL_law_881 : decode cL_law 881 = .ok (.iload 17, 2) := by decide +kernel
theorem dL_law_883 : decode cL_law 883 = .ok (.aload_n 1, 1) := by decide +kernel
theorem dL_law_884 : decode cL_law 884 = .ok (.bipush 6, 2) := by decide +kernel
theorem dL_law_886 : decode cL_law 886 = .ok (.invokevirtual 40, 3) := by decide +kernel
theorem dL_law_889 : decode cL_law 889 = .ok (.if_icmp .ne 62, 3) := by decide +kernel
theorem dL_law_892 : decode cL_law 892 = .ok (.iload 18, 2) := by decide +kernel
theorem dL_law_894 : decode cL_law 894 = .ok (.aload_n 1, 1) := by decide +kernel
theorem dL_law_895 : decode cL_law 895 = .ok (.bipush 8, 2) := by decide +kernel
theorem dL_law_897 : decode cL_law 897 = .ok (.invokevirtual 40, 3) := by decide +kernel
theorem dL_law_900 : decode cL_law 900 = .ok (.if_icmp .ne 51, 3) := by decide +kernel
theorem dL_law_903 : decode cL_law 903 = .ok (.iload 20, 2) := by decide +kernel
theorem dL_law_905 : decode cL_law 905 = .ok (.aload_n 1, 1) := by decide +kernel
theorem dL_law_906 : decode cL_law 906 = .ok (.bipush 9, 2) := by decide +kernel
theorem dL_law_908 : decode cL_law 908 = .ok (.invokevirtual 40, 3) := by decide +kernel
theorem dL_law_911 : decode cL_law 911 = .ok (.if_icmp .ne 40, 3) := by decide +kernel
theorem dL_law_914 : decode cL_law 914 = .ok (.iload 15, 2) := by decide +kernel
theorem dL_law_916 : decode cL_law 916 = .ok (.iload 20, 2) := by decide +kernel
theorem dL_law_918 : decode cL_law 918 = .ok (.if_icmp .ne 33, 3) := by decide +kernel
theorem dL_law_921 : decode cL_law 921 = .ok (.aload_n 1, 1) := by decide +kernel
theorem dL_law_922 : decode cL_law 922 = .ok (.iconst 4, 1) := by decide +kernel
theorem dL_law_923 : decode cL_law 923 = .ok (.invokevirtual 40, 3) := by decide +kernel
theorem dL_law_926 : decode cL_law 926 = .ok (.aload_n 1, 1) := by decide +kernel
theorem dL_law_927 : decode cL_law 927 = .ok (.iconst 5, 1) := by decide +kernel
theorem dL_law_928 : decode cL_law 928 = .ok (.invokevirtual 40, 3) := by decide +kernel
theorem dL_law_931 : decode cL_law 931 = .ok (.iadd, 1) := by decide +kernel
theorem dL_law_932 : decode cL_law 932 = .ok (.aload_n 1, 1) := by decide +kernel
theorem dL_law_933 : decode cL_law 933 = .ok (.bipush 6, 2) := by decide +kernel
theorem dL_law_935 : decode cL_law 935 = .ok (.invokevirtual 40, 3) := by decide +kernel
theorem dL_law_938 : decode cL_law 938 = .ok (.iadd, 1) := by decide +kernel
theorem dL_law_939 : decode cL_law 939 = .ok (.aload_n 1, 1) := by decide +kernel
theorem dL_law_940 : decode cL_law 940 = .ok (.bipush 7, 2) := by decide +kernel
theorem dL_law_942 : decode cL_law 942 = .ok (.invokevirtual 40, 3) := by decide +kernel
theorem dL_law_945 : decode cL_law 945 = .ok (.iadd, 1) := by decide +kernel
theorem dL_law_946 : decode cL_law 946 = .ok (.iload 5, 2) := by decide +kernel
theorem dL_law_948 : decode cL_law 948 = .ok (.if_icmp .eq 5, 3) := by decide +kernel
theorem dL_law_951 : decode cL_law 951 = .ok (.iconst 0, 1) := by decide +kernel
theorem dL_law_952 : decode cL_law 952 = .ok (.ireturn, 1) := by decide +kernel
theorem dL_law_953 : decode cL_law 953 = .ok (.iinc 3 1, 3) := by decide +kernel
theorem dL_law_956 : decode cL_law 956 = .ok (.goto (-942), 3) := by decide +kernel
theorem dL_law_959 : decode cL_law 959 = .ok (.iconst 1, 1) := by decide +kernel
theorem dL_law_960 : decode cL_law 960 = .ok (.ireturn, 1) := by decide +kernel
