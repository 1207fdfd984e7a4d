theorem dX10_same_11 : decode cX10_same 11 = .ok (.ifCond .eq 13, 3) := by decide +kernel
theorem dX10_same_14 : decode cX10_same 14 = .ok (.aload_n 0, 1) := by decide +kernel
theorem dX10_same_15 : decode cX10_same 15 = .ok (.iload_n 1, 1) := by decide +kernel
theorem dX10_same_16 : decode cX10_same 16 = .ok (.iload 4, 2) := by decide +kernel
theorem dX10_same_18 : decode cX10_same 18 = .ok (.invokevirtual 219, 3) := by decide +kernel
theorem dX10_same_21 : decode cX10_same 21 = .ok (.ifCond .ne 6, 3) := by decide +kernel
theorem dX10_same_24 : decode cX10_same 24 = .ok (.bipush (-2), 2) := by decide +kernel
theorem dX10_same_26 : decode cX10_same 26 = .ok (.ireturn, 1) := by decide +kernel
theorem dX10_same_27 : decode cX10_same 27 = .ok (.aload_n 0, 1) := by decide +kernel
theorem dX10_same_28 : decode cX10_same 28 = .ok (.getfield 77, 3) := by decide +kernel
theorem dX10_same_31 : decode cX10_same 31 = .ok (.iconst 0, 1) := by decide +kernel
theorem dX10_same_32 : decode cX10_same 32 = .ok (.aload_n 0, 1) := by decide +kernel
theorem dX10_same_33 : decode cX10_same 33 = .ok (.iload_n 1, 1) := by decide +kernel
theorem dX10_same_34 : decode cX10_same 34 = .ok (.iload_n 2, 1) := by decide +kernel
theorem dX10_same_35 : decode cX10_same 35 = .ok (.iload_n 3, 1) := by decide +kernel
theorem dX10_same_36 : decode cX10_same 36 = .ok (.invokevirtual 222, 3) := by decide +kernel
theorem dX10_same_39 : decode cX10_same 39 = .ok (.iastore, 1) := by decide +kernel
theorem dX10_same_40 : decode cX10_same 40 = .ok (.aload_n 0, 1) := by decide +kernel
theorem dX10_same_41 : decode cX10_same 41 = .ok (.getfield 77, 3) := by decide +kernel
theorem dX10_same_44 : decode cX10_same 44 = .ok (.iconst 1, 1) := by decide +kernel
theorem dX10_same_45 : decode cX10_same 45 = .ok (.aload_n 0, 1) := by decide +kernel
theorem dX10_same_46 : decode cX10_same 46 = .ok (.getfield 112, 3) := by decide +kernel
theorem dX10_same_49 : decode cX10_same 49 = .ok (.iastore, 1) := by decide +kernel
theorem dX10_same_50 : decode cX10_same 50 = .ok (.aload_n 0, 1) := by decide +kernel
theorem dX10_same_51 : decode cX10_same 51 = .ok (.getfield 77, 3) := by decide +kernel
theorem dX10_same_54 : decode cX10_same 54 = .ok (.iconst 2, 1) := by decide +kernel
theorem dX10_same_55 : decode cX10_same 55 = .ok (.aload_n 0, 1) := by decide +kernel
theorem dX10_same_56 : decode cX10_same 56 = .ok (.getfield 115, 3) := by decide +kernel
theorem dX10_same_59 : decode cX10_same 59 = .ok (.iastore, 1) := by decide +kernel
theorem dX10_same_60 : decode cX10_same 60 = .ok (.aload_n 0, 1) := by decide +kernel
theorem dX10_same_61 : decode cX10_same 61 = .ok (.getfield 77, 3) := by decide +kernel
theorem dX10_same_64 : decode cX10_same 64 = .ok (.iconst 3, 1) := by decide +kernel
theorem dX10_same_65 : decode cX10_same 65 = .ok (.aload_n 0, 1) := by decide +kernel
theorem dX10_same_66 : decode cX10_same 66 = .ok (.getfield 168, 3) := by decide +kernel
theorem dX10_same_69 : decode cX10_same 69 = .ok (.iastore, 1) := by decide +kernel
theorem dX10_same_70 : decode cX10_same 70 = .ok (.iconst 0, 1) := by decide +kernel
theorem dX10_same_71 : decode cX10_same 71 = .ok (.istore 5, 2) := by decide +kernel
theorem dX10_same_73 : decode cX10_same 73 = .ok (.iload 5, 2) := by decide +kernel
theorem dX10_same_75 : decode cX10_same 75 = .ok (.bipush 8, 2) := by decide +kernel
theorem dX10_same_77 : decode cX10_same 77 = .ok (.if_icmp .ge 25, 3) := by decide +kernel
theorem dX10_same_80 : decode cX10_same 80 = .ok (.aload_n 0, 1) := by decide +kernel
theorem dX10_same_81 : decode cX10_same 81 = .ok (.getfield 77, 3) := by decide +kernel
theorem dX10_same_84 : decode cX10_same 84 = .ok (.iconst 4, 1) := by decide +kernel
theorem dX10_same_85 : decode cX10_same 85 = .ok (.iload 5, 2) := by decide +kernel
theorem dX10_same_87 : decode cX10_same 87 = .ok (.iadd, 1) := by decide +kernel
theorem dX10_same_88 : decode cX10_same 88 = .ok (.aload_n 0, 1) := by decide +kernel
theorem dX10_same_89 : decode cX10_same 89 = .ok (.getfield 32, 3) := by decide +kernel
theorem dX10_same_92 : decode cX10_same 92 = .ok (.iload 5, 2) := by decide +kernel
theorem dX10_same_94 : decode cX10_same 94 = .ok (.iaload, 1) := by decide +kernel
theorem dX10_same_95 : decode cX10_same 95 = .ok (.iastore, 1) := by decide +kernel
theorem dX10_same_96 : decode cX10_same 96 = .ok (.iinc 5 1, 3) := by decide +kernel
theorem dX10_same_99 : decode cX10_same 99 = .ok (.goto (-26), 3) := by decide +kernel
theorem dX10_same_102 : decode cX10_same 102 = .ok (.iconst 0, 1) := by decide +kernel
theorem dX10_same_103 : decode cX10_same 103 = .ok (.istore 5, 2) := by decide +kernel
theorem dX10_same_105 : decode cX10_same 105 = .ok (.iconst 0, 1) := by decide +kernel
theorem dX10_same_106 : decode cX10_same 106 = .ok (.istore 6, 2) := by decide +kernel
theorem dX10_same_108 : decode cX10_same 108 = .ok (.iload 6, 2) := by decide +kernel
theorem dX10_same_110 : decode cX10_same 110 = .ok (.iconst 4, 1) := by decide +kernel
theorem dX10_same_111 : decode cX10_same 111 = .ok (.if_icmp .ge 63, 3) := by decide +kernel
theorem dX10_same_114 : decode cX10_same 114 = .ok (.aload_n 0, 1) := by decide +kernel
theorem dX10_same_115 : decode cX10_same 115 = .ok (.getfield 77, 3) := by decide +kernel
theorem dX10_same_118 : decode cX10_same 118 = .ok (.bipush 12, 2) := by decide +kernel
theorem dX10_same_120 : decode cX10_same 120 = .ok (.iload 6, 2) := by decide +kernel
theorem dX10_same_122 : decode cX10_same 122 = .ok (.iadd, 1) := by decide +kernel
theorem dX10_same_123 : decode cX10_same 123 = .ok (.aload_n 0, 1) := by decide +kernel
theorem dX10_same_124 : decode cX10_same 124 = .ok (.iload 6, 2) := by decide +kernel
theorem dX10_same_126 : decode cX10_same 126 = .ok (.invokevirtual 229, 3) := by decide +kernel
theorem dX10_same_129 : decode cX10_same 129 = .ok (.iastore, 1) := by decide +kernel
theorem dX10_same_130 : decode cX10_same 130 = .ok (.iconst 0, 1) := by decide +kernel
theorem dX10_same_131 : decode cX10_same 131 = .ok (.istore 7, 2) := by decide +kernel
theorem dX10_same_133 : decode cX10_same 133 = .ok (.iload 7, 2) := by decide +kernel
theorem dX10_same_135 : decode cX10_same 135 = .ok (.aload_n 0, 1) := by decide +kernel
theorem dX10_same_136 : decode cX10_same 136 = .ok (.iload 6, 2) := by decide +kernel
theorem dX10_same_138 : decode cX10_same 138 = .ok (.invokevirtual 229, 3) := by decide +kernel
theorem dX10_same_141 : decode cX10_same 141 = .ok (.if_icmp .ge 27, 3) := by decide +kernel
theorem dX10_same_144 : decode cX10_same 144 = .ok (.aload_n 0, 1) := by decide +kernel
theorem dX10_same_145 : decode cX10_same 145 = .ok (.getfield 80, 3) := by decide +kernel
theorem dX10_same_148 : decode cX10_same 148 = .ok (.iload 5, 2) := by decide +kernel
theorem dX10_same_150 : decode cX10_same 150 = .ok (.aload_n 0, 1) := by decide +kernel
theorem dX10_same_151 : decode cX10_same 151 = .ok (.iload 6, 2) := by decide +kernel
theorem dX10_same_153 : decode cX10_same 153 = .ok (.iload 7, 2) := by decide +kernel
theorem dX10_same_155 : decode cX10_same 155 = .ok (.invokevirtual 232, 3) := by decide +kernel
theorem dX10_same_158 : decode cX10_same 158 = .ok (.iastore, 1) := by decide +kernel
theorem dX10_same_159 : decode cX10_same 159 = .ok (.iinc 5 1, 3) := by decide +kernel
theorem dX10_same_162 : decode cX10_same 162 = .ok (.iinc 7 1, 3) := by decide +kernel
theorem dX10_same_165 : decode cX10_same 165 = .ok (.goto (-32), 3) := by decide +kernel
theorem dX10_same_168 : decode cX10_same 168 = .ok (.iinc 6 1, 3) := by decide +kernel
theorem dX10_same_171 : decode cX10_same 171 = .ok (.goto (-63), 3) := by decide +kernel
theorem dX10_same_174 : decode cX10_same 174 = .ok (.aload_n 0, 1) := by decide +kernel
theorem dX10_same_175 : decode cX10_same 175 = .ok (.getfield 77, 3) := by decide +kernel
theorem dX10_same_178 : decode cX10_same 178 = .ok (.iconst 0, 1) := by decide +kernel
theorem dX10_same_179 : decode cX10_same 179 = .ok (.iaload, 1) := by decide +kernel
theorem dX10_same_180 : decode cX10_same 180 = .ok (.aload_n 0, 1) := by decide +kernel
theorem dX10_same_181 : decode cX10_same 181 = .ok (.iload_n 1, 1) := by decide +kernel
theorem dX10_same_182 : decode cX10_same 182 = .ok (.iload_n 2, 1) := by decide +kernel
theorem dX10_same_183 : decode cX10_same 183 = .ok (.iload 4, 2) := by decide +kernel
theorem dX10_same_185 : decode cX10_same 185 = .ok (.invokevirtual 222, 3) := by decide +kernel
theorem dX10_same_188 : decode cX10_same 188 = .ok (.if_icmp .ne 46, 3) := by decide +kernel
theorem dX10_same_191 : decode cX10_same 191 = .ok (.aload_n 0, 1) := by decide +kernel
theorem dX10_same_192 : decode cX10_same 192 = .ok (.getfield 77, 3) := by decide +kernel
theorem dX10_same_195 : decode cX10_same 195 = .ok (.iconst 1, 1) := by decide +kernel
theorem dX10_same_196 : decode cX10_same 196 = .ok (.iaload, 1) := by decide +kernel
theorem dX10_same_197 : decode cX10_same 197 = .ok (.aload_n 0, 1) := by decide +kernel
theorem dX10_same_198 : decode cX10_same 198 = .ok (.getfield 112, 3) := by decide +kernel
theorem dX10_same_201 : decode cX10_same 201 = .ok (.if_icmp .ne 33, 3) := by decide +kernel
theorem dX10_same_204 : decode cX10_same 204 = .ok (.aload_n 0, 1) := by decide +kernel
theorem dX10_same_205 : decode cX10_same 205 = .ok (.getfield 77, 3) := by decide +kernel
theorem dX10_same_208 : decode cX10_same 208 = .ok (.iconst 2, 1) := by decide +kernel
theorem dX10_same_209 : decode cX10_same 209 = .ok (.iaload, 1) := by decide +kernel
theorem dX10_same_210 : decode cX10_same 210 = .ok (.aload_n 0, 1) := by decide +kernel
theorem dX10_same_211 : decode cX10_same 211 = .ok (.getfield 115, 3) := by decide +kernel
theorem dX10_same_214 : decode cX10_same 214 = .ok (.if_icmp .ne 20, 3) := by decide +kernel
theorem dX10_same_217 : decode cX10_same 217 = .ok (.aload_n 0, 1) := by decide +kernel
theorem dX10_same_218 : decode cX10_same 218 = .ok (.getfield 77, 3) := by decide +kernel
theorem dX10_same_221 : decode cX10_same 221 = .ok (.iconst 3, 1) := by decide +kernel
theorem dX10_same_222 : decode cX10_same 222 = .ok (.iaload, 1) := by decide +kernel
theorem dX10_same_223 : decode cX10_same 223 = .ok (.aload_n 0, 1) := by decide +kernel
theorem dX10_same_224 : decode cX10_same 224 = .ok (.getfield 168, 3) := by decide +kernel
theorem dX10_same_227 : decode cX10_same 227 = .ok (.if_icmp .ne 7, 3) := by decide +kernel
theorem dX10_same_230 : decode cX10_same 230 = .ok (.iconst 1, 1) := by decide +kernel
theorem dX10_same_231 : decode cX10_same 231 = .ok (.goto 4, 3) := by decide +kernel
theorem dX10_same_234 : decode cX10_same 234 = .ok (.iconst 0, 1) := by decide +kernel
theorem dX10_same_235 : decode cX10_same 235 = .ok (.istore 6, 2) := by decide +kernel
theorem dX10_same_237 : decode cX10_same 237 = .ok (.iconst 0, 1) := by decide +kernel
theorem dX10_same_238 : decode cX10_same 238 = .ok (.istore 7, 2) := by decide +kernel
theorem dX10_same_240 : decode cX10_same 240 = .ok (.iload 7, 2) := by decide +kernel
theorem dX10_same_242 : decode cX10_same 242 = .ok (.bipush 8, 2) := by decide +kernel
theorem dX10_same_244 : decode cX10_same 244 = .ok (.if_icmp .ge 40, 3) := by decide +kernel
theorem dX10_same_247 : decode cX10_same 247 = .ok (.iload 6, 2) := by decide +kernel
theorem dX10_same_249 : decode cX10_same 249 = .ok (.ifCond .eq 26, 3) := by decide +kernel
theorem dX10_same_252 : decode cX10_same 252 = .ok (.aload_n 0, 1) := by decide +kernel
theorem dX10_same_253 : decode cX10_same 253 = .ok (.getfield 77, 3) := by decide +kernel
theorem dX10_same_256 : decode cX10_same 256 = .ok (.iconst 4, 1) := by decide +kernel
theorem dX10_same_257 : decode cX10_same 257 = .ok (.iload 7, 2) := by decide +kernel
theorem dX10_same_259 : decode cX10_same 259 = .ok (.iadd, 1) := by decide +kernel
theorem dX10_same_260 : decode cX10_same 260 = .ok (.iaload, 1) := by decide +kernel
theorem dX10_same_261 : decode cX10_same 261 = .ok (.aload_n 0, 1) := by decide +kernel
theorem dX10_same_262 : decode cX10_same 262 = .ok (.getfield 32, 3) := by decide +kernel
theorem dX10_same_265 : decode cX10_same 265 = .ok (.iload 7, 2) := by decide +kernel
theorem dX10_same_267 : decode cX10_same 267 = .ok (.iaload, 1) := by decide +kernel
theorem dX10_same_268 : decode cX10_same 268 = .ok (.if_icmp .ne 7, 3) := by decide +kernel
theorem dX10_same_271 : decode cX10_same 271 = .ok (.iconst 1, 1) := by decide +kernel
theorem dX10_same_272 : decode cX10_same 272 = .ok (.goto 4, 3) := by decide +kernel
theorem dX10_same_275 : decode cX10_same 275 = .ok (.iconst 0, 1) := by decide +kernel
theorem dX10_same_276 : decode cX10_same 276 = .ok (.istore 6, 2) := by decide +kernel
theorem dX10_same_278 : decode cX10_same 278 = .ok (.iinc 7 1, 3) := by decide +kernel
theorem dX10_same_281 : decode cX10_same 281 = .ok (.goto (-41), 3) := by decide +kernel
theorem dX10_same_284 : decode cX10_same 284 = .ok (.iconst 0, 1) := by decide +kernel
theorem dX10_same_285 : decode cX10_same 285 = .ok (.istore 5, 2) := by decide +kernel
theorem dX10_same_287 : decode cX10_same 287 = .ok (.iconst 0, 1) := by decide +kernel
theorem dX10_same_288 : decode cX10_same 288 = .ok (.istore 7, 2) := by decide +kernel
theorem dX10_same_290 : decode cX10_same 290 = .ok (.iload 7, 2) := by decide +kernel
theorem dX10_same_292 : decode cX10_same 292 = .ok (.iconst 4, 1) := by decide +kernel
theorem dX10_same_293 : decode cX10_same 293 = .ok (.if_icmp .ge 93, 3) := by decide +kernel
theorem dX10_same_296 : decode cX10_same 296 = .ok (.iload 6, 2) := by decide +kernel
theorem dX10_same_298 : decode cX10_same 298 = .ok (.ifCond .eq 26, 3) := by decide +kernel
theorem dX10_same_301 : decode cX10_same 301 = .ok (.aload_n 0, 1) := by decide +kernel
theorem dX10_same_302 : decode cX10_same 302 = .ok (.getfield 77, 3) := by decide +kernel
theorem dX10_same_305 : decode cX10_same 305 = .ok (.bipush 12, 2) := by decide +kernel
theorem dX10_same_307 : decode cX10_same 307 = .ok (.iload 7, 2) := by decide +kernel
theorem dX10_same_309 : decode cX10_same 309 = .ok (.iadd, 1) := by decide +kernel
theorem dX10_same_310 : decode cX10_same 310 = .ok (.iaload, 1) := by decide +kernel
theorem dX10_same_311 : decode cX10_same 311 = .ok (.aload_n 0, 1) := by decide +kernel
theorem dX10_same_312 : decode cX10_same 312 = .ok (.iload 7, 2) := by decide +kernel
theorem dX10_same_314 : decode cX10_same 314 = .ok (.invokevirtual 229, 3) := by decide +kernel
theorem dX10_same_317 : decode cX10_same 317 = .ok (.if_icmp .ne 7, 3) := by decide +kernel
theorem dX10_same_320 : decode cX10_same 320 = .ok (.iconst 1, 1) := by decide +kernel
theorem dX10_same_321 : decode cX10_same 321 = .ok (.goto 4, 3) := by decide +kernel
theorem dX10_same_324 : decode cX10_same 324 = .ok (.iconst 0, 1) := by decide +kernel
theorem dX10_same_325 : decode cX10_same 325 = .ok (.istore 6, 2) := by decide +kernel
theorem dX10_same_327 : decode cX10_same 327 = .ok (.iconst 0, 1) := by decide +kernel
theorem dX10_same_328 : decode cX10_same 328 = .ok (.istore 8, 2) := by decide +kernel
theorem dX10_same_330 : decode cX10_same 330 = .ok (.iload 6, 2) := by decide +kernel
theorem dX10_same_332 : decode cX10_same 332 = .ok (.ifCond .eq 48, 3) := by decide +kernel
theorem dX10_same_335 : decode cX10_same 335 = .ok (.iload 8, 2) := by decide +kernel
theorem dX10_same_337 : decode cX10_same 337 = .ok (.aload_n 0, 1) := by decide +kernel
theorem dX10_same_338 : decode cX10_same 338 = .ok (.iload 7, 2) := by decide +kernel
theorem dX10_same_340 : decode cX10_same 340 = .ok (.invokevirtual 229, 3) := by decide +kernel
theorem dX10_same_343 : decode cX10_same 343 = .ok (.if_icmp .ge 37, 3) := by decide +kernel
theorem dX10_same_346 : decode cX10_same 346 = .ok (.aload_n 0, 1) := by decide +kernel
theorem dX10_same_347 : decode cX10_same 347 = .ok (.getfield 80, 3) := by decide +kernel
theorem dX10_same_350 : decode cX10_same 350 = .ok (.iload 5, 2) := by decide +kernel
theorem dX10_same_352 : decode cX10_same 352 = .ok (.iaload, 1) := by decide +kernel
theorem dX10_same_353 : decode cX10_same 353 = .ok (.aload_n 0, 1) := by decide +kernel
theorem dX10_same_354 : decode cX10_same 354 = .ok (.iload 7, 2) := by decide +kernel
theorem dX10_same_356 : decode cX10_same 356 = .ok (.iload 8, 2) := by decide +kernel
theorem dX10_same_358 : decode cX10_same 358 = .ok (.invokevirtual 232, 3) := by decide +kernel
theorem dX10_same_361 : decode cX10_same 361 = .ok (.if_icmp .ne 7, 3) := by decide +kernel
theorem dX10_same_364 : decode cX10_same 364 = .ok (.iconst 1, 1) := by decide +kernel
theorem dX10_same_365 : decode cX10_same 365 = .ok (.goto 4, 3) := by decide +kernel
theorem dX10_same_368 : decode cX10_same 368 = .ok (.iconst 0, 1) := by decide +kernel
theorem dX10_same_369 : decode cX10_same 369 = .ok (.istore 6, 2) := by decide +kernel
theorem dX10_same_371 : decode cX10_same 371 = .ok (.iinc 5 1, 3) := by decide +kernel
theorem dX10_same_374 : decode cX10_same 374 = .ok (.iinc 8 1, 3) := by decide +kernel
theorem dX10_same_377 : decode cX10_same 377 = .ok (.goto (-47), 3) := by decide +kernel
theorem dX10_same_380 : decode cX10_same 380 = .ok (.iinc 7 1, 3) := by decide +kernel
theorem dX10_same_383 : decode cX10_same 383 = .ok (.goto (-93), 3) := by decide +kernel
theorem dX10_same_386 : decode cX10_same 386 = .ok (.iload 6, 2) := by decide +kernel
theorem dX10_same_388 : decode cX10_same 388 = .ok (.ifCond .eq 7, 3) := by decide +kernel
theorem dX10_same_391 : decode cX10_same 391 = .ok (.iconst 1, 1) := by decide +kernel
theorem dX10_same_392 : decode cX10_same 392 = .ok (.goto 4, 3) := by decide +kernel
theorem dX10_same_395 : decode cX10_same 395 = .ok (.iconst 0, 1) := by decide +kernel
theorem dX10_same_396 : decode cX10_same 396 = .ok (.ireturn, 1) := by decide +kernel
theorem dX10_count_0 : decode cX10_count 0 = .ok (.aload_n 0, 1) := by decide +kernel
theorem dX10_count_1 : decode cX10_count 1 = .ok (.iconst 0, 1) := by decide +kernel
theorem dX10_count_2 : decode cX10_count 2 = .ok (.putfield 1, 3) := by decide +kernel
theorem dX10_count_5 : decode cX10_count 5 = .ok (.iconst 0, 1) := by decide +kernel
theorem dX10_count_6 : decode cX10_count 6 = .ok (.istore_n 2, 1) := by decide +kernel
theorem dX10_count_7 : decode cX10_count 7 = .ok (.iconst 0, 1) := by decide +kernel
theorem dX10_count_8 : decode cX10_count 8 = .ok (.istore_n 3, 1) := by decide +kernel
theorem dX10_count_9 : decode cX10_count 9 = .ok (.iload_n 3, 1) := by decide +kernel
theorem dX10_count_10 : decode cX10_count 10 = .ok (.bipush 8, 2) := by decide +kernel
theorem dX10_count_12 : decode cX10_count 12 = .ok (.if_icmp .ge 27, 3) := by decide +kernel
theorem dX10_count_15 : decode cX10_count 15 = .ok (.iload_n 2, 1) := by decide +kernel
theorem dX10_count_16 : decode cX10_count 16 = .ok (.aload_n 0, 1) := by decide +kernel
theorem dX10_count_17 : decode cX10_count 17 = .ok (.getfield 29, 3) := by decide +kernel
theorem dX10_count_20 : decode cX10_count 20 = .ok (.iload_n 3, 1) := by decide +kernel
theorem dX10_count_21 : decode cX10_count 21 = .ok (.iaload, 1) := by decide +kernel
theorem dX10_count_22 : decode cX10_count 22 = .ok (.iconst (-1), 1) := by decide +kernel
theorem dX10_count_23 : decode cX10_count 23 = .ok (.if_icmp .ne 7, 3) := by decide +kernel
theorem dX10_count_26 : decode cX10_count 26 = .ok (.iconst 0, 1) := by decide +kernel
theorem dX10_count_27 : decode cX10_count 27 = .ok (.goto 4, 3) := by decide +kernel
theorem dX10_count_30 : decode cX10_count 30 = .ok (.iconst 1, 1) := by decide +kernel
theorem dX10_count_31 : decode cX10_count 31 = .ok (.iadd, 1) := by decide +kernel
theorem dX10_count_32 : decode cX10_count 32 = .ok (.istore_n 2, 1) := by decide +kernel
theorem dX10_count_33 : decode cX10_count 33 = .ok (.iinc 3 1, 3) := by decide +kernel
theorem dX10_count_36 : decode cX10_count 36 = .ok (.goto (-27), 3) := by decide +kernel
theorem dX10_count_39 : decode cX10_count 39 = .ok (.iload_n 1, 1) := by decide +kernel
theorem dX10_count_40 : decode cX10_count 40 = .ok (.ifCond .lt 17, 3) := by decide +kernel
theorem dX10_count_43 : decode cX10_count 43 = .ok (.iload_n 1, 1) := by decide +kernel
theorem dX10_count_44 : decode cX10_count 44 = .ok (.iconst 3, 1) := by decide +kernel
theorem dX10_count_45 : decode cX10_count 45 = .ok (.if_icmp .gt 12, 3) := by decide +kernel
theorem dX10_count_48 : decode cX10_count 48 = .ok (.aload_n 0, 1) := by decide +kernel
theorem dX10_count_49 : decode cX10_count 49 = .ok (.getfield 59, 3) := by decide +kernel
theorem dX10_count_52 : decode cX10_count 52 = .ok (.iload_n 1, 1) := by decide +kernel
theorem dX10_count_53 : decode cX10_count 53 = .ok (.iaload, 1) := by decide +kernel
theorem dX10_count_54 : decode cX10_count 54 = .ok (.goto 26, 3) := by decide +kernel
theorem dX10_count_57 : decode cX10_count 57 = .ok (.iload_n 1, 1) := by decide +kernel
theorem dX10_count_58 : decode cX10_count 58 = .ok (.iconst 4, 1) := by decide +kernel
theorem dX10_count_59 : decode cX10_count 59 = .ok (.if_icmp .ne 10, 3) := by decide +kernel
theorem dX10_count_62 : decode cX10_count 62 = .ok (.aload_n 0, 1) := by decide +kernel
theorem dX10_count_63 : decode cX10_count 63 = .ok (.getfield 83, 3) := by decide +kernel
theorem dX10_count_66 : decode cX10_count 66 = .ok (.goto 14, 3) := by decide +kernel
theorem dX10_count_69 : decode cX10_count 69 = .ok (.iload_n 1, 1) := by decide +kernel
theorem dX10_count_70 : decode cX10_count 70 = .ok (.iconst 5, 1) := by decide +kernel
theorem dX10_count_71 : decode cX10_count 71 = .ok (.if_icmp .ne 7, 3) := by decide +kernel
theorem dX10_count_74 : decode cX10_count 74 = .ok (.iload_n 2, 1) := by decide +kernel
theorem dX10_count_75 : decode cX10_count 75 = .ok (.goto 5, 3) := by decide +kernel
theorem dX10_count_78 : decode cX10_count 78 = .ok (.bipush (-2), 2) := by decide +kernel
theorem dX10_count_80 : decode cX10_count 80 = .ok (.ireturn, 1) := by decide +kernel
theorem dJ9_max_7cf53_0 : decode cJ9_max_7cf53 0 = .ok (.iload_n 0, 1) := by decide +kernel
theorem dJ9_max_7cf53_1 : decode cJ9_max_7cf53 1 = .ok (.iload_n 1, 1) := by decide +kernel
theorem dJ9_max_7cf53_2 : decode cJ9_max_7cf53 2 = .ok (.if_icmp .lt 7, 3) := by decide +kernel
theorem dJ9_max_7cf53_5 : decode cJ9_max_7cf53 5 = .ok (.iload_n 0, 1) := by decide +kernel
theorem dJ9_max_7cf53_6 : decode cJ9_max_7cf53 6 = .ok (.goto 4, 3) := by decide +kernel
theorem dJ9_max_7cf53_9 : decode cJ9_max_7cf53 9 = .ok (.iload_n 1, 1) := by decide +kernel
theorem dJ9_max_7cf53_10 : decode cJ9_max_7cf53 10 = .ok (.ireturn, 1) := by decide +kernel
theorem dJ7_fill_53178_0 : decode cJ7_fill_53178 0 = .ok (.iconst 0, 1) := by decide +kernel
theorem dJ7_fill_53178_1 : decode cJ7_fill_53178 1 = .ok (.istore_n 2, 1) := by decide +kernel
theorem dJ7_fill_53178_2 : decode cJ7_fill_53178 2 = .ok (.aload_n 0, 1) := by decide +kernel
theorem dJ7_fill_53178_3 : decode cJ7_fill_53178 3 = .ok (.arraylength, 1) := by decide +kernel
theorem dJ7_fill_53178_4 : decode cJ7_fill_53178 4 = .ok (.istore_n 3, 1) := by decide +kernel
theorem dJ7_fill_53178_5 : decode cJ7_fill_53178 5 = .ok (.iload_n 2, 1) := by decide +kernel
theorem dJ7_fill_53178_6 : decode cJ7_fill_53178 6 = .ok (.iload_n 3, 1) := by decide +kernel
theorem dJ7_fill_53178_7 : decode cJ7_fill_53178 7 = .ok (.if_icmp .ge 13, 3) := by decide +kernel
theorem dJ7_fill_53178_10 : decode cJ7_fill_53178 10 = .ok (.aload_n 0, 1) := by decide +kernel
theorem dJ7_fill_53178_11 : decode cJ7_fill_53178 11 = .ok (.iload_n 2, 1) := by decide +kernel
theorem dJ7_fill_53178_12 : decode cJ7_fill_53178 12 = .ok (.iload_n 1, 1) := by decide +kernel
theorem dJ7_fill_53178_13 : decode cJ7_fill_53178 13 = .ok (.iastore, 1) := by decide +kernel
theorem dJ7_fill_53178_14 : decode cJ7_fill_53178 14 = .ok (.iinc 2 1, 3) := by decide +kernel
theorem dJ7_fill_53178_17 : decode cJ7_fill_53178 17 = .ok (.goto (-12), 3) := by decide +kernel
theorem dJ7_fill_53178_20 : decode cJ7_fill_53178 20 = .ok (.return_, 1) := by decide +kernel
