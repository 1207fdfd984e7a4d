theorem dX10_simple_198 : decode cX10_simple 198 = .ok (.iconst 0, 1) := by decide +kernel
theorem dX10_simple_199 : decode cX10_simple 199 = .ok (.invokevirtual 118, 3) := by decide +kernel
theorem dX10_simple_202 : decode cX10_simple 202 = .ok (.return_, 1) := by decide +kernel
theorem dX10_simple_203 : decode cX10_simple 203 = .ok (.aload_n 0, 1) := by decide +kernel
theorem dX10_simple_204 : decode cX10_simple 204 = .ok (.iload_n 2, 1) := by decide +kernel
theorem dX10_simple_205 : decode cX10_simple 205 = .ok (.aload_n 0, 1) := by decide +kernel
theorem dX10_simple_206 : decode cX10_simple 206 = .ok (.getfield 32, 3) := by decide +kernel
theorem dX10_simple_209 : decode cX10_simple 209 = .ok (.iload_n 3, 1) := by decide +kernel
theorem dX10_simple_210 : decode cX10_simple 210 = .ok (.iaload, 1) := by decide +kernel
theorem dX10_simple_211 : decode cX10_simple 211 = .ok (.invokevirtual 165, 3) := by decide +kernel
theorem dX10_simple_214 : decode cX10_simple 214 = .ok (.ifCond .ne 4, 3) := by decide +kernel
theorem dX10_simple_217 : decode cX10_simple 217 = .ok (.return_, 1) := by decide +kernel
theorem dX10_simple_218 : decode cX10_simple 218 = .ok (.aload_n 0, 1) := by decide +kernel
theorem dX10_simple_219 : decode cX10_simple 219 = .ok (.getfield 47, 3) := by decide +kernel
theorem dX10_simple_222 : decode cX10_simple 222 = .ok (.aload_n 0, 1) := by decide +kernel
theorem dX10_simple_223 : decode cX10_simple 223 = .ok (.getfield 44, 3) := by decide +kernel
theorem dX10_simple_226 : decode cX10_simple 226 = .ok (.aload_n 0, 1) := by decide +kernel
theorem dX10_simple_227 : decode cX10_simple 227 = .ok (.getfield 35, 3) := by decide +kernel
theorem dX10_simple_230 : decode cX10_simple 230 = .ok (.iload_n 2, 1) := by decide +kernel
theorem dX10_simple_231 : decode cX10_simple 231 = .ok (.iaload, 1) := by decide +kernel
theorem dX10_simple_232 : decode cX10_simple 232 = .ok (.iaload, 1) := by decide +kernel
theorem dX10_simple_233 : decode cX10_simple 233 = .ok (.aload_n 0, 1) := by decide +kernel
theorem dX10_simple_234 : decode cX10_simple 234 = .ok (.getfield 32, 3) := by decide +kernel
theorem dX10_simple_237 : decode cX10_simple 237 = .ok (.iload_n 3, 1) := by decide +kernel
theorem dX10_simple_238 : decode cX10_simple 238 = .ok (.iaload, 1) := by decide +kernel
theorem dX10_simple_239 : decode cX10_simple 239 = .ok (.iadd, 1) := by decide +kernel
theorem dX10_simple_240 : decode cX10_simple 240 = .ok (.aload_n 0, 1) := by decide +kernel
theorem dX10_simple_241 : decode cX10_simple 241 = .ok (.getfield 32, 3) := by decide +kernel
theorem dX10_simple_244 : decode cX10_simple 244 = .ok (.iload 4, 2) := by decide +kernel
theorem dX10_simple_246 : decode cX10_simple 246 = .ok (.iaload, 1) := by decide +kernel
theorem dX10_simple_247 : decode cX10_simple 247 = .ok (.iastore, 1) := by decide +kernel
theorem dX10_simple_248 : decode cX10_simple 248 = .ok (.aload_n 0, 1) := by decide +kernel
theorem dX10_simple_249 : decode cX10_simple 249 = .ok (.iconst 0, 1) := by decide +kernel
theorem dX10_simple_250 : decode cX10_simple 250 = .ok (.invokevirtual 118, 3) := by decide +kernel
theorem dX10_simple_253 : decode cX10_simple 253 = .ok (.return_, 1) := by decide +kernel
theorem dX10_simple_254 : decode cX10_simple 254 = .ok (.aload_n 0, 1) := by decide +kernel
theorem dX10_simple_255 : decode cX10_simple 255 = .ok (.getfield 35, 3) := by decide +kernel
theorem dX10_simple_258 : decode cX10_simple 258 = .ok (.iload_n 3, 1) := by decide +kernel
theorem dX10_simple_259 : decode cX10_simple 259 = .ok (.iaload, 1) := by decide +kernel
theorem dX10_simple_260 : decode cX10_simple 260 = .ok (.iconst (-1), 1) := by decide +kernel
theorem dX10_simple_261 : decode cX10_simple 261 = .ok (.if_icmp .ne 10, 3) := by decide +kernel
theorem dX10_simple_264 : decode cX10_simple 264 = .ok (.aload_n 0, 1) := by decide +kernel
theorem dX10_simple_265 : decode cX10_simple 265 = .ok (.iconst 1, 1) := by decide +kernel
theorem dX10_simple_266 : decode cX10_simple 266 = .ok (.iconst 0, 1) := by decide +kernel
theorem dX10_simple_267 : decode cX10_simple 267 = .ok (.invokevirtual 149, 3) := by decide +kernel
theorem dX10_simple_270 : decode cX10_simple 270 = .ok (.return_, 1) := by decide +kernel
theorem dX10_simple_271 : decode cX10_simple 271 = .ok (.aload_n 0, 1) := by decide +kernel
theorem dX10_simple_272 : decode cX10_simple 272 = .ok (.getfield 32, 3) := by decide +kernel
theorem dX10_simple_275 : decode cX10_simple 275 = .ok (.iload_n 2, 1) := by decide +kernel
theorem dX10_simple_276 : decode cX10_simple 276 = .ok (.aload_n 0, 1) := by decide +kernel
theorem dX10_simple_277 : decode cX10_simple 277 = .ok (.getfield 41, 3) := by decide +kernel
theorem dX10_simple_280 : decode cX10_simple 280 = .ok (.aload_n 0, 1) := by decide +kernel
theorem dX10_simple_281 : decode cX10_simple 281 = .ok (.getfield 35, 3) := by decide +kernel
theorem dX10_simple_284 : decode cX10_simple 284 = .ok (.iload_n 3, 1) := by decide +kernel
theorem dX10_simple_285 : decode cX10_simple 285 = .ok (.iaload, 1) := by decide +kernel
theorem dX10_simple_286 : decode cX10_simple 286 = .ok (.iaload, 1) := by decide +kernel
theorem dX10_simple_287 : decode cX10_simple 287 = .ok (.iastore, 1) := by decide +kernel
theorem dX10_simple_288 : decode cX10_simple 288 = .ok (.aload_n 0, 1) := by decide +kernel
theorem dX10_simple_289 : decode cX10_simple 289 = .ok (.iconst 0, 1) := by decide +kernel
theorem dX10_simple_290 : decode cX10_simple 290 = .ok (.invokevirtual 118, 3) := by decide +kernel
theorem dX10_simple_293 : decode cX10_simple 293 = .ok (.return_, 1) := by decide +kernel
theorem dX10_simple_294 : decode cX10_simple 294 = .ok (.aload_n 0, 1) := by decide +kernel
theorem dX10_simple_295 : decode cX10_simple 295 = .ok (.getfield 35, 3) := by decide +kernel
theorem dX10_simple_298 : decode cX10_simple 298 = .ok (.iload_n 2, 1) := by decide +kernel
theorem dX10_simple_299 : decode cX10_simple 299 = .ok (.iconst (-1), 1) := by decide +kernel
theorem dX10_simple_300 : decode cX10_simple 300 = .ok (.iastore, 1) := by decide +kernel
theorem dX10_simple_301 : decode cX10_simple 301 = .ok (.aload_n 0, 1) := by decide +kernel
theorem dX10_simple_302 : decode cX10_simple 302 = .ok (.iconst 0, 1) := by decide +kernel
theorem dX10_simple_303 : decode cX10_simple 303 = .ok (.invokevirtual 118, 3) := by decide +kernel
theorem dX10_simple_306 : decode cX10_simple 306 = .ok (.return_, 1) := by decide +kernel
theorem dX10_simple_307 : decode cX10_simple 307 = .ok (.aload_n 0, 1) := by decide +kernel
theorem dX10_simple_308 : decode cX10_simple 308 = .ok (.getfield 35, 3) := by decide +kernel
theorem dX10_simple_311 : decode cX10_simple 311 = .ok (.iload_n 2, 1) := by decide +kernel
theorem dX10_simple_312 : decode cX10_simple 312 = .ok (.aload_n 0, 1) := by decide +kernel
theorem dX10_simple_313 : decode cX10_simple 313 = .ok (.getfield 35, 3) := by decide +kernel
theorem dX10_simple_316 : decode cX10_simple 316 = .ok (.iload_n 3, 1) := by decide +kernel
theorem dX10_simple_317 : decode cX10_simple 317 = .ok (.iaload, 1) := by decide +kernel
theorem dX10_simple_318 : decode cX10_simple 318 = .ok (.iastore, 1) := by decide +kernel
theorem dX10_simple_319 : decode cX10_simple 319 = .ok (.aload_n 0, 1) := by decide +kernel
theorem dX10_simple_320 : decode cX10_simple 320 = .ok (.iconst 0, 1) := by decide +kernel
theorem dX10_simple_321 : decode cX10_simple 321 = .ok (.invokevirtual 118, 3) := by decide +kernel
theorem dX10_simple_324 : decode cX10_simple 324 = .ok (.return_, 1) := by decide +kernel
theorem dX10_simple_325 : decode cX10_simple 325 = .ok (.aload_n 0, 1) := by decide +kernel
theorem dX10_simple_326 : decode cX10_simple 326 = .ok (.aload_n 0, 1) := by decide +kernel
theorem dX10_simple_327 : decode cX10_simple 327 = .ok (.getfield 32, 3) := by decide +kernel
theorem dX10_simple_330 : decode cX10_simple 330 = .ok (.iload_n 2, 1) := by decide +kernel
theorem dX10_simple_331 : decode cX10_simple 331 = .ok (.iaload, 1) := by decide +kernel
theorem dX10_simple_332 : decode cX10_simple 332 = .ok (.putfield 168, 3) := by decide +kernel
theorem dX10_simple_335 : decode cX10_simple 335 = .ok (.aload_n 0, 1) := by decide +kernel
theorem dX10_simple_336 : decode cX10_simple 336 = .ok (.iconst 1, 1) := by decide +kernel
theorem dX10_simple_337 : decode cX10_simple 337 = .ok (.invokevirtual 118, 3) := by decide +kernel
theorem dX10_simple_340 : decode cX10_simple 340 = .ok (.return_, 1) := by decide +kernel
theorem dX10_simple_341 : decode cX10_simple 341 = .ok (.aload_n 0, 1) := by decide +kernel
theorem dX10_simple_342 : decode cX10_simple 342 = .ok (.iconst 5, 1) := by decide +kernel
theorem dX10_simple_343 : decode cX10_simple 343 = .ok (.aload_n 0, 1) := by decide +kernel
theorem dX10_simple_344 : decode cX10_simple 344 = .ok (.getfield 32, 3) := by decide +kernel
theorem dX10_simple_347 : decode cX10_simple 347 = .ok (.iload_n 2, 1) := by decide +kernel
theorem dX10_simple_348 : decode cX10_simple 348 = .ok (.iaload, 1) := by decide +kernel
theorem dX10_simple_349 : decode cX10_simple 349 = .ok (.invokevirtual 149, 3) := by decide +kernel
theorem dX10_simple_352 : decode cX10_simple 352 = .ok (.return_, 1) := by decide +kernel
theorem dX10_simple_353 : decode cX10_simple 353 = .ok (.aload_n 0, 1) := by decide +kernel
theorem dX10_simple_354 : decode cX10_simple 354 = .ok (.getfield 32, 3) := by decide +kernel
theorem dX10_simple_357 : decode cX10_simple 357 = .ok (.iload_n 2, 1) := by decide +kernel
theorem dX10_simple_358 : decode cX10_simple 358 = .ok (.aload_n 0, 1) := by decide +kernel
theorem dX10_simple_359 : decode cX10_simple 359 = .ok (.getfield 168, 3) := by decide +kernel
theorem dX10_simple_362 : decode cX10_simple 362 = .ok (.iastore, 1) := by decide +kernel
theorem dX10_simple_363 : decode cX10_simple 363 = .ok (.aload_n 0, 1) := by decide +kernel
theorem dX10_simple_364 : decode cX10_simple 364 = .ok (.iconst 0, 1) := by decide +kernel
theorem dX10_simple_365 : decode cX10_simple 365 = .ok (.invokevirtual 118, 3) := by decide +kernel
theorem dX10_simple_368 : decode cX10_simple 368 = .ok (.return_, 1) := by decide +kernel
theorem dX10_simple_369 : decode cX10_simple 369 = .ok (.aload_n 0, 1) := by decide +kernel
theorem dX10_simple_370 : decode cX10_simple 370 = .ok (.iload_n 1, 1) := by decide +kernel
theorem dX10_simple_371 : decode cX10_simple 371 = .ok (.invokevirtual 171, 3) := by decide +kernel
theorem dX10_simple_374 : decode cX10_simple 374 = .ok (.return_, 1) := by decide +kernel
theorem dX10_calls_0 : decode cX10_calls 0 = .ok (.aload_n 0, 1) := by decide +kernel
theorem dX10_calls_1 : decode cX10_calls 1 = .ok (.getfield 29, 3) := by decide +kernel
theorem dX10_calls_4 : decode cX10_calls 4 = .ok (.aload_n 0, 1) := by decide +kernel
theorem dX10_calls_5 : decode cX10_calls 5 = .ok (.getfield 17, 3) := by decide +kernel
theorem dX10_calls_8 : decode cX10_calls 8 = .ok (.iload_n 1, 1) := by decide +kernel
theorem dX10_calls_9 : decode cX10_calls 9 = .ok (.iaload, 1) := by decide +kernel
theorem dX10_calls_10 : decode cX10_calls 10 = .ok (.iaload, 1) := by decide +kernel
theorem dX10_calls_11 : decode cX10_calls 11 = .ok (.istore_n 2, 1) := by decide +kernel
theorem dX10_calls_12 : decode cX10_calls 12 = .ok (.aload_n 0, 1) := by decide +kernel
theorem dX10_calls_13 : decode cX10_calls 13 = .ok (.getfield 143, 3) := by decide +kernel
theorem dX10_calls_16 : decode cX10_calls 16 = .ok (.bipush 8, 2) := by decide +kernel
theorem dX10_calls_18 : decode cX10_calls 18 = .ok (.if_icmp .ne 13, 3) := by decide +kernel
theorem dX10_calls_21 : decode cX10_calls 21 = .ok (.aload_n 0, 1) := by decide +kernel
theorem dX10_calls_22 : decode cX10_calls 22 = .ok (.bipush 6, 2) := by decide +kernel
theorem dX10_calls_24 : decode cX10_calls 24 = .ok (.iconst 0, 1) := by decide +kernel
theorem dX10_calls_25 : decode cX10_calls 25 = .ok (.invokevirtual 149, 3) := by decide +kernel
theorem dX10_calls_28 : decode cX10_calls 28 = .ok (.goto 22, 3) := by decide +kernel
theorem dX10_calls_31 : decode cX10_calls 31 = .ok (.iload_n 2, 1) := by decide +kernel
theorem dX10_calls_32 : decode cX10_calls 32 = .ok (.iconst (-1), 1) := by decide +kernel
theorem dX10_calls_33 : decode cX10_calls 33 = .ok (.if_icmp .ne 12, 3) := by decide +kernel
theorem dX10_calls_36 : decode cX10_calls 36 = .ok (.aload_n 0, 1) := by decide +kernel
theorem dX10_calls_37 : decode cX10_calls 37 = .ok (.iconst 1, 1) := by decide +kernel
theorem dX10_calls_38 : decode cX10_calls 38 = .ok (.iconst 0, 1) := by decide +kernel
theorem dX10_calls_39 : decode cX10_calls 39 = .ok (.invokevirtual 149, 3) := by decide +kernel
theorem dX10_calls_42 : decode cX10_calls 42 = .ok (.goto 8, 3) := by decide +kernel
theorem dX10_calls_45 : decode cX10_calls 45 = .ok (.aload_n 0, 1) := by decide +kernel
theorem dX10_calls_46 : decode cX10_calls 46 = .ok (.iload_n 2, 1) := by decide +kernel
theorem dX10_calls_47 : decode cX10_calls 47 = .ok (.invokevirtual 174, 3) := by decide +kernel
theorem dX10_calls_50 : decode cX10_calls 50 = .ok (.return_, 1) := by decide +kernel
theorem dX10_enter_0 : decode cX10_enter 0 = .ok (.aload_n 0, 1) := by decide +kernel
theorem dX10_enter_1 : decode cX10_enter 1 = .ok (.iconst 1, 1) := by decide +kernel
theorem dX10_enter_2 : decode cX10_enter 2 = .ok (.iconst 2, 1) := by decide +kernel
theorem dX10_enter_3 : decode cX10_enter 3 = .ok (.invokevirtual 153, 3) := by decide +kernel
theorem dX10_enter_6 : decode cX10_enter 6 = .ok (.ifCond .ne 4, 3) := by decide +kernel
theorem dX10_enter_9 : decode cX10_enter 9 = .ok (.return_, 1) := by decide +kernel
theorem dX10_enter_10 : decode cX10_enter 10 = .ok (.aload_n 0, 1) := by decide +kernel
theorem dX10_enter_11 : decode cX10_enter 11 = .ok (.dup, 1) := by decide +kernel
theorem dX10_enter_12 : decode cX10_enter 12 = .ok (.getfield 143, 3) := by decide +kernel
theorem dX10_enter_15 : decode cX10_enter 15 = .ok (.iconst 1, 1) := by decide +kernel
theorem dX10_enter_16 : decode cX10_enter 16 = .ok (.iadd, 1) := by decide +kernel
theorem dX10_enter_17 : decode cX10_enter 17 = .ok (.putfield 143, 3) := by decide +kernel
theorem dX10_enter_20 : decode cX10_enter 20 = .ok (.aload_n 0, 1) := by decide +kernel
theorem dX10_enter_21 : decode cX10_enter 21 = .ok (.aload_n 0, 1) := by decide +kernel
theorem dX10_enter_22 : decode cX10_enter 22 = .ok (.getfield 143, 3) := by decide +kernel
theorem dX10_enter_25 : decode cX10_enter 25 = .ok (.aload_n 0, 1) := by decide +kernel
theorem dX10_enter_26 : decode cX10_enter 26 = .ok (.getfield 177, 3) := by decide +kernel
theorem dX10_enter_29 : decode cX10_enter 29 = .ok (.if_icmp .le 10, 3) := by decide +kernel
theorem dX10_enter_32 : decode cX10_enter 32 = .ok (.aload_n 0, 1) := by decide +kernel
theorem dX10_enter_33 : decode cX10_enter 33 = .ok (.getfield 143, 3) := by decide +kernel
theorem dX10_enter_36 : decode cX10_enter 36 = .ok (.goto 7, 3) := by decide +kernel
theorem dX10_enter_39 : decode cX10_enter 39 = .ok (.aload_n 0, 1) := by decide +kernel
theorem dX10_enter_40 : decode cX10_enter 40 = .ok (.getfield 177, 3) := by decide +kernel
theorem dX10_enter_43 : decode cX10_enter 43 = .ok (.putfield 177, 3) := by decide +kernel
theorem dX10_enter_46 : decode cX10_enter 46 = .ok (.aload_n 0, 1) := by decide +kernel
theorem dX10_enter_47 : decode cX10_enter 47 = .ok (.getfield 65, 3) := by decide +kernel
theorem dX10_enter_50 : decode cX10_enter 50 = .ok (.aload_n 0, 1) := by decide +kernel
theorem dX10_enter_51 : decode cX10_enter 51 = .ok (.getfield 106, 3) := by decide +kernel
theorem dX10_enter_54 : decode cX10_enter 54 = .ok (.iconst 1, 1) := by decide +kernel
theorem dX10_enter_55 : decode cX10_enter 55 = .ok (.isub, 1) := by decide +kernel
theorem dX10_enter_56 : decode cX10_enter 56 = .ok (.iconst 1, 1) := by decide +kernel
theorem dX10_enter_57 : decode cX10_enter 57 = .ok (.iastore, 1) := by decide +kernel
theorem dX10_enter_58 : decode cX10_enter 58 = .ok (.aload_n 0, 1) := by decide +kernel
theorem dX10_enter_59 : decode cX10_enter 59 = .ok (.iload_n 1, 1) := by decide +kernel
theorem dX10_enter_60 : decode cX10_enter 60 = .ok (.invokevirtual 180, 3) := by decide +kernel
theorem dX10_enter_63 : decode cX10_enter 63 = .ok (.return_, 1) := by decide +kernel
theorem dX10_locks_0 : decode cX10_locks 0 = .ok (.aload_n 0, 1) := by decide +kernel
theorem dX10_locks_1 : decode cX10_locks 1 = .ok (.getfield 17, 3) := by decide +kernel
theorem dX10_locks_4 : decode cX10_locks 4 = .ok (.iload_n 1, 1) := by decide +kernel
theorem dX10_locks_5 : decode cX10_locks 5 = .ok (.iaload, 1) := by decide +kernel
theorem dX10_locks_6 : decode cX10_locks 6 = .ok (.istore_n 2, 1) := by decide +kernel
theorem dX10_locks_7 : decode cX10_locks 7 = .ok (.aload_n 0, 1) := by decide +kernel
theorem dX10_locks_8 : decode cX10_locks 8 = .ok (.getfield 38, 3) := by decide +kernel
theorem dX10_locks_11 : decode cX10_locks 11 = .ok (.iload_n 2, 1) := by decide +kernel
theorem dX10_locks_12 : decode cX10_locks 12 = .ok (.dup2, 1) := by decide +kernel
theorem dX10_locks_13 : decode cX10_locks 13 = .ok (.iaload, 1) := by decide +kernel
theorem dX10_locks_14 : decode cX10_locks 14 = .ok (.iconst 1, 1) := by decide +kernel
theorem dX10_locks_15 : decode cX10_locks 15 = .ok (.iadd, 1) := by decide +kernel
theorem dX10_locks_16 : decode cX10_locks 16 = .ok (.iastore, 1) := by decide +kernel
theorem dX10_locks_17 : decode cX10_locks 17 = .ok (.aload_n 0, 1) := by decide +kernel
theorem dX10_locks_18 : decode cX10_locks 18 = .ok (.aload_n 0, 1) := by decide +kernel
theorem dX10_locks_19 : decode cX10_locks 19 = .ok (.getfield 38, 3) := by decide +kernel
theorem dX10_locks_22 : decode cX10_locks 22 = .ok (.iload_n 2, 1) := by decide +kernel
theorem dX10_locks_23 : decode cX10_locks 23 = .ok (.iaload, 1) := by decide +kernel
theorem dX10_locks_24 : decode cX10_locks 24 = .ok (.aload_n 0, 1) := by decide +kernel
theorem dX10_locks_25 : decode cX10_locks 25 = .ok (.getfield 183, 3) := by decide +kernel
theorem dX10_locks_28 : decode cX10_locks 28 = .ok (.if_icmp .le 12, 3) := by decide +kernel
theorem dX10_locks_31 : decode cX10_locks 31 = .ok (.aload_n 0, 1) := by decide +kernel
theorem dX10_locks_32 : decode cX10_locks 32 = .ok (.getfield 38, 3) := by decide +kernel
theorem dX10_locks_35 : decode cX10_locks 35 = .ok (.iload_n 2, 1) := by decide +kernel
theorem dX10_locks_36 : decode cX10_locks 36 = .ok (.iaload, 1) := by decide +kernel
theorem dX10_locks_37 : decode cX10_locks 37 = .ok (.goto 7, 3) := by decide +kernel
theorem dX10_locks_40 : decode cX10_locks 40 = .ok (.aload_n 0, 1) := by decide +kernel
theorem dX10_locks_41 : decode cX10_locks 41 = .ok (.getfield 183, 3) := by decide +kernel
theorem dX10_locks_44 : decode cX10_locks 44 = .ok (.putfield 183, 3) := by decide +kernel
theorem dX10_locks_47 : decode cX10_locks 47 = .ok (.aload_n 0, 1) := by decide +kernel
theorem dX10_locks_48 : decode cX10_locks 48 = .ok (.getfield 65, 3) := by decide +kernel
theorem dX10_locks_51 : decode cX10_locks 51 = .ok (.aload_n 0, 1) := by decide +kernel
theorem dX10_locks_52 : decode cX10_locks 52 = .ok (.getfield 106, 3) := by decide +kernel
theorem dX10_locks_55 : decode cX10_locks 55 = .ok (.iconst 1, 1) := by decide +kernel
theorem dX10_locks_56 : decode cX10_locks 56 = .ok (.isub, 1) := by decide +kernel
theorem dX10_locks_57 : decode cX10_locks 57 = .ok (.iconst 1, 1) := by decide +kernel
theorem dX10_locks_58 : decode cX10_locks 58 = .ok (.iastore, 1) := by decide +kernel
theorem dX10_locks_59 : decode cX10_locks 59 = .ok (.aload_n 0, 1) := by decide +kernel
theorem dX10_locks_60 : decode cX10_locks 60 = .ok (.aload_n 0, 1) := by decide +kernel
theorem dX10_locks_61 : decode cX10_locks 61 = .ok (.getfield 20, 3) := by decide +kernel
theorem dX10_locks_64 : decode cX10_locks 64 = .ok (.iload_n 1, 1) := by decide +kernel
theorem dX10_locks_65 : decode cX10_locks 65 = .ok (.iaload, 1) := by decide +kernel
theorem dX10_locks_66 : decode cX10_locks 66 = .ok (.invokevirtual 180, 3) := by decide +kernel
theorem dX10_locks_69 : decode cX10_locks 69 = .ok (.return_, 1) := by decide +kernel
theorem dX10_begin_0 : decode cX10_begin 0 = .ok (.aload_n 0, 1) := by decide +kernel
theorem dX10_begin_1 : decode cX10_begin 1 = .ok (.getfield 62, 3) := by decide +kernel
theorem dX10_begin_4 : decode cX10_begin 4 = .ok (.aload_n 0, 1) := by decide +kernel
theorem dX10_begin_5 : decode cX10_begin 5 = .ok (.getfield 106, 3) := by decide +kernel
theorem dX10_begin_8 : decode cX10_begin 8 = .ok (.iconst 1, 1) := by decide +kernel
theorem dX10_begin_9 : decode cX10_begin 9 = .ok (.isub, 1) := by decide +kernel
theorem dX10_begin_10 : decode cX10_begin 10 = .ok (.iaload, 1) := by decide +kernel
theorem dX10_begin_11 : decode cX10_begin 11 = .ok (.istore_n 1, 1) := by decide +kernel
theorem dX10_begin_12 : decode cX10_begin 12 = .ok (.aload_n 0, 1) := by decide +kernel
theorem dX10_begin_13 : decode cX10_begin 13 = .ok (.getfield 13, 3) := by decide +kernel
theorem dX10_begin_16 : decode cX10_begin 16 = .ok (.iload_n 1, 1) := by decide +kernel
theorem dX10_begin_17 : decode cX10_begin 17 = .ok (.iaload, 1) := by decide +kernel
theorem dX10_begin_18 : decode cX10_begin 18 = .ok (.tableswitch 176 12 20 #[50, 73, 119, 164, 176, 176, 50, 50, 170], 50) := by decide +kernel
theorem dX10_begin_68 : decode cX10_begin 68 = .ok (.aload_n 0, 1) := by decide +kernel
theorem dX10_begin_69 : decode cX10_begin 69 = .ok (.getfield 65, 3) := by decide +kernel
theorem dX10_begin_72 : decode cX10_begin 72 = .ok (.aload_n 0, 1) := by decide +kernel
theorem dX10_begin_73 : decode cX10_begin 73 = .ok (.getfield 106, 3) := by decide +kernel
theorem dX10_begin_76 : decode cX10_begin 76 = .ok (.iconst 1, 1) := by decide +kernel
theorem dX10_begin_77 : decode cX10_begin 77 = .ok (.isub, 1) := by decide +kernel
theorem dX10_begin_78 : decode cX10_begin 78 = .ok (.iconst 1, 1) := by decide +kernel
theorem dX10_begin_79 : decode cX10_begin 79 = .ok (.iastore, 1) := by decide +kernel
theorem dX10_begin_80 : decode cX10_begin 80 = .ok (.aload_n 0, 1) := by decide +kernel
theorem dX10_begin_81 : decode cX10_begin 81 = .ok (.aload_n 0, 1) := by decide +kernel
theorem dX10_begin_82 : decode cX10_begin 82 = .ok (.getfield 17, 3) := by decide +kernel
theorem dX10_begin_85 : decode cX10_begin 85 = .ok (.iload_n 1, 1) := by decide +kernel
theorem dX10_begin_86 : decode cX10_begin 86 = .ok (.iaload, 1) := by decide +kernel
theorem dX10_begin_87 : decode cX10_begin 87 = .ok (.invokevirtual 180, 3) := by decide +kernel
theorem dX10_begin_90 : decode cX10_begin 90 = .ok (.return_, 1) := by decide +kernel
theorem dX10_begin_91 : decode cX10_begin 91 = .ok (.aload_n 0, 1) := by decide +kernel
theorem dX10_begin_92 : decode cX10_begin 92 = .ok (.getfield 65, 3) := by decide +kernel
theorem dX10_begin_95 : decode cX10_begin 95 = .ok (.aload_n 0, 1) := by decide +kernel
theorem dX10_begin_96 : decode cX10_begin 96 = .ok (.getfield 106, 3) := by decide +kernel
theorem dX10_begin_99 : decode cX10_begin 99 = .ok (.iconst 1, 1) := by decide +kernel
theorem dX10_begin_100 : decode cX10_begin 100 = .ok (.isub, 1) := by decide +kernel
theorem dX10_begin_101 : decode cX10_begin 101 = .ok (.iconst 1, 1) := by decide +kernel
theorem dX10_begin_102 : decode cX10_begin 102 = .ok (.iastore, 1) := by decide +kernel
theorem dX10_begin_103 : decode cX10_begin 103 = .ok (.aload_n 0, 1) := by decide +kernel
theorem dX10_begin_104 : decode cX10_begin 104 = .ok (.aload_n 0, 1) := by decide +kernel
theorem dX10_begin_105 : decode cX10_begin 105 = .ok (.getfield 32, 3) := by decide +kernel
theorem dX10_begin_108 : decode cX10_begin 108 = .ok (.aload_n 0, 1) := by decide +kernel
theorem dX10_begin_109 : decode cX10_begin 109 = .ok (.getfield 17, 3) := by decide +kernel
theorem dX10_begin_112 : decode cX10_begin 112 = .ok (.iload_n 1, 1) := by decide +kernel
theorem dX10_begin_113 : decode cX10_begin 113 = .ok (.iaload, 1) := by decide +kernel
theorem dX10_begin_114 : decode cX10_begin 114 = .ok (.iaload, 1) := by decide +kernel
theorem dX10_begin_115 : decode cX10_begin 115 = .ok (.ifCond .eq 12, 3) := by decide +kernel
theorem dX10_begin_118 : decode cX10_begin 118 = .ok (.aload_n 0, 1) := by decide +kernel
theorem dX10_begin_119 : decode cX10_begin 119 = .ok (.getfield 20, 3) := by decide +kernel
theorem dX10_begin_122 : decode cX10_begin 122 = .ok (.iload_n 1, 1) := by decide +kernel
theorem dX10_begin_123 : decode cX10_begin 123 = .ok (.iaload, 1) := by decide +kernel
theorem dX10_begin_124 : decode cX10_begin 124 = .ok (.goto 9, 3) := by decide +kernel
theorem dX10_begin_127 : decode cX10_begin 127 = .ok (.aload_n 0, 1) := by decide +kernel
theorem dX10_begin_128 : decode cX10_begin 128 = .ok (.getfield 23, 3) := by decide +kernel
theorem dX10_begin_131 : decode cX10_begin 131 = .ok (.iload_n 1, 1) := by decide +kernel
theorem dX10_begin_132 : decode cX10_begin 132 = .ok (.iaload, 1) := by decide +kernel
theorem dX10_begin_133 : decode cX10_begin 133 = .ok (.invokevirtual 180, 3) := by decide +kernel
theorem dX10_begin_136 : decode cX10_begin 136 = .ok (.return_, 1) := by decide +kernel
theorem dX10_begin_137 : decode cX10_begin 137 = .ok (.aload_n 0, 1) := by decide +kernel
theorem dX10_begin_138 : decode cX10_begin 138 = .ok (.getfield 32, 3) := by decide +kernel
theorem dX10_begin_141 : decode cX10_begin 141 = .ok (.aload_n 0, 1) := by decide +kernel
theorem dX10_begin_142 : decode cX10_begin 142 = .ok (.getfield 17, 3) := by decide +kernel
theorem dX10_begin_145 : decode cX10_begin 145 = .ok (.iload_n 1, 1) := by decide +kernel
theorem dX10_begin_146 : decode cX10_begin 146 = .ok (.iaload, 1) := by decide +kernel
theorem dX10_begin_147 : decode cX10_begin 147 = .ok (.iaload, 1) := by decide +kernel
theorem dX10_begin_148 : decode cX10_begin 148 = .ok (.ifCond .ne 11, 3) := by decide +kernel
theorem dX10_begin_151 : decode cX10_begin 151 = .ok (.aload_n 0, 1) := by decide +kernel
theorem dX10_begin_152 : decode cX10_begin 152 = .ok (.iconst 0, 1) := by decide +kernel
theorem dX10_begin_153 : decode cX10_begin 153 = .ok (.invokevirtual 118, 3) := by decide +kernel
theorem dX10_begin_156 : decode cX10_begin 156 = .ok (.goto 25, 3) := by decide +kernel
theorem dX10_begin_159 : decode cX10_begin 159 = .ok (.aload_n 0, 1) := by decide +kernel
theorem dX10_begin_160 : decode cX10_begin 160 = .ok (.getfield 65, 3) := by decide +kernel
theorem dX10_begin_163 : decode cX10_begin 163 = .ok (.aload_n 0, 1) := by decide +kernel
theorem dX10_begin_164 : decode cX10_begin 164 = .ok (.getfield 106, 3) := by decide +kernel
theorem dX10_begin_167 : decode cX10_begin 167 = .ok (.iconst 1, 1) := by decide +kernel
theorem dX10_begin_168 : decode cX10_begin 168 = .ok (.isub, 1) := by decide +kernel
theorem dX10_begin_169 : decode cX10_begin 169 = .ok (.iconst 1, 1) := by decide +kernel
theorem dX10_begin_170 : decode cX10_begin 170 = .ok (.iastore, 1) := by decide +kernel
theorem dX10_begin_171 : decode cX10_begin 171 = .ok (.aload_n 0, 1) := by decide +kernel
theorem dX10_begin_172 : decode cX10_begin 172 = .ok (.aload_n 0, 1) := by decide +kernel
theorem dX10_begin_173 : decode cX10_begin 173 = .ok (.getfield 20, 3) := by decide +kernel
theorem dX10_begin_176 : decode cX10_begin 176 = .ok (.iload_n 1, 1) := by decide +kernel
theorem dX10_begin_177 : decode cX10_begin 177 = .ok (.iaload, 1) := by decide +kernel
theorem dX10_begin_178 : decode cX10_begin 178 = .ok (.invokevirtual 180, 3) := by decide +kernel
theorem dX10_begin_181 : decode cX10_begin 181 = .ok (.return_, 1) := by decide +kernel
theorem dX10_begin_182 : decode cX10_begin 182 = .ok (.aload_n 0, 1) := by decide +kernel
theorem dX10_begin_183 : decode cX10_begin 183 = .ok (.iload_n 1, 1) := by decide +kernel
theorem dX10_begin_184 : decode cX10_begin 184 = .ok (.invokevirtual 186, 3) := by decide +kernel
theorem dX10_begin_187 : decode cX10_begin 187 = .ok (.return_, 1) := by decide +kernel
theorem dX10_begin_188 : decode cX10_begin 188 = .ok (.aload_n 0, 1) := by decide +kernel
theorem dX10_begin_189 : decode cX10_begin 189 = .ok (.iload_n 1, 1) := by decide +kernel
theorem dX10_begin_190 : decode cX10_begin 190 = .ok (.invokevirtual 189, 3) := by decide +kernel
theorem dX10_begin_193 : decode cX10_begin 193 = .ok (.return_, 1) := by decide +kernel
theorem dX10_begin_194 : decode cX10_begin 194 = .ok (.aload_n 0, 1) := by decide +kernel
theorem dX10_begin_195 : decode cX10_begin 195 = .ok (.iload_n 1, 1) := by decide +kernel
theorem dX10_begin_196 : decode cX10_begin 196 = .ok (.invokevirtual 192, 3) := by decide +kernel
theorem dX10_begin_199 : decode cX10_begin 199 = .ok (.return_, 1) := by decide +kernel
theorem dX10_second_0 : decode cX10_second 0 = .ok (.aload_n 0, 1) := by decide +kernel
theorem dX10_second_1 : decode cX10_second 1 = .ok (.getfield 65, 3) := by decide +kernel
theorem dX10_second_4 : decode cX10_second 4 = .ok (.aload_n 0, 1) := by decide +kernel
theorem dX10_second_5 : decode cX10_second 5 = .ok (.getfield 106, 3) := by decide +kernel
theorem dX10_second_8 : decode cX10_second 8 = .ok (.iconst 1, 1) := by decide +kernel
theorem dX10_second_9 : decode cX10_second 9 = .ok (.isub, 1) := by decide +kernel
theorem dX10_second_10 : decode cX10_second 10 = .ok (.iconst 2, 1) := by decide +kernel
theorem dX10_second_11 : decode cX10_second 11 = .ok (.iastore, 1) := by decide +kernel
theorem dX10_second_12 : decode cX10_second 12 = .ok (.aload_n 0, 1) := by decide +kernel
theorem dX10_second_13 : decode cX10_second 13 = .ok (.iload_n 1, 1) := by decide +kernel
theorem dX10_second_14 : decode cX10_second 14 = .ok (.invokevirtual 180, 3) := by decide +kernel
theorem dX10_second_17 : decode cX10_second 17 = .ok (.return_, 1) := by decide +kernel
theorem dX10_handles_0 : decode cX10_handles 0 = .ok (.aload_n 0, 1) := by decide +kernel
theorem dX10_handles_1 : decode cX10_handles 1 = .ok (.getfield 65, 3) := by decide +kernel
theorem dX10_handles_4 : decode cX10_handles 4 = .ok (.aload_n 0, 1) := by decide +kernel
theorem dX10_handles_5 : decode cX10_handles 5 = .ok (.getfield 106, 3) := by decide +kernel
theorem dX10_handles_8 : decode cX10_handles 8 = .ok (.iconst 1, 1) := by decide +kernel
theorem dX10_handles_9 : decode cX10_handles 9 = .ok (.isub, 1) := by decide +kernel
theorem dX10_handles_10 : decode cX10_handles 10 = .ok (.iaload, 1) := by decide +kernel
theorem dX10_handles_11 : decode cX10_handles 11 = .ok (.iconst 1, 1) := by decide +kernel
theorem dX10_handles_12 : decode cX10_handles 12 = .ok (.if_icmp .ne 32, 3) := by decide +kernel
theorem dX10_handles_15 : decode cX10_handles 15 = .ok (.aload_n 0, 1) := by decide +kernel
theorem dX10_handles_16 : decode cX10_handles 16 = .ok (.getfield 109, 3) := by decide +kernel
theorem dX10_handles_19 : decode cX10_handles 19 = .ok (.iconst 2, 1) := by decide +kernel
theorem dX10_handles_20 : decode cX10_handles 20 = .ok (.if_icmp .ne 24, 3) := by decide +kernel
theorem dX10_handles_23 : decode cX10_handles 23 = .ok (.aload_n 0, 1) := by decide +kernel
theorem dX10_handles_24 : decode cX10_handles 24 = .ok (.getfield 20, 3) := by decide +kernel
theorem dX10_handles_27 : decode cX10_handles 27 = .ok (.iload_n 1, 1) := by decide +kernel
theorem dX10_handles_28 : decode cX10_handles 28 = .ok (.iaload, 1) := by decide +kernel
theorem dX10_handles_29 : decode cX10_handles 29 = .ok (.aload_n 0, 1) := by decide +kernel
theorem dX10_handles_30 : decode cX10_handles 30 = .ok (.getfield 112, 3) := by decide +kernel
theorem dX10_handles_33 : decode cX10_handles 33 = .ok (.ishr, 1) := by decide +kernel
theorem dX10_handles_34 : decode cX10_handles 34 = .ok (.iconst 1, 1) := by decide +kernel
theorem dX10_handles_35 : decode cX10_handles 35 = .ok (.iand, 1) := by decide +kernel
theorem dX10_handles_36 : decode cX10_handles 36 = .ok (.iconst 1, 1) := by decide +kernel
theorem dX10_handles_37 : decode cX10_handles 37 = .ok (.if_icmp .ne 7, 3) := by decide +kernel
theorem dX10_handles_40 : decode cX10_handles 40 = .ok (.iconst 1, 1) := by decide +kernel
theorem dX10_handles_41 : decode cX10_handles 41 = .ok (.goto 4, 3) := by decide +kernel
theorem dX10_handles_44 : decode cX10_handles 44 = .ok (.iconst 0, 1) := by decide +kernel
theorem dX10_handles_45 : decode cX10_handles 45 = .ok (.istore_n 2, 1) := by decide +kernel
theorem dX10_handles_46 : decode cX10_handles 46 = .ok (.iload_n 2, 1) := by decide +kernel
theorem dX10_handles_47 : decode cX10_handles 47 = .ok (.ifCond .ne 14, 3) := by decide +kernel
theorem dX10_handles_50 : decode cX10_handles 50 = .ok (.aload_n 0, 1) := by decide +kernel
theorem dX10_handles_51 : decode cX10_handles 51 = .ok (.dup, 1) := by decide +kernel
theorem dX10_handles_52 : decode cX10_handles 52 = .ok (.getfield 106, 3) := by decide +kernel
theorem dX10_handles_55 : decode cX10_handles 55 = .ok (.iconst 1, 1) := by decide +kernel
theorem dX10_handles_56 : decode cX10_handles 56 = .ok (.isub, 1) := by decide +kernel
theorem dX10_handles_57 : decode cX10_handles 57 = .ok (.putfield 106, 3) := by decide +kernel
theorem dX10_handles_60 : decode cX10_handles 60 = .ok (.return_, 1) := by decide +kernel
theorem dX10_handles_61 : decode cX10_handles 61 = .ok (.aload_n 0, 1) := by decide +kernel
theorem dX10_handles_62 : decode cX10_handles 62 = .ok (.iconst 2, 1) := by decide +kernel
theorem dX10_handles_63 : decode cX10_handles 63 = .ok (.bipush 10, 2) := by decide +kernel
theorem dX10_handles_65 : decode cX10_handles 65 = .ok (.invokevirtual 153, 3) := by decide +kernel
theorem dX10_handles_68 : decode cX10_handles 68 = .ok (.ifCond .ne 4, 3) := by decide +kernel
theorem dX10_handles_71 : decode cX10_handles 71 = .ok (.return_, 1) := by decide +kernel
theorem dX10_handles_72 : decode cX10_handles 72 = .ok (.aload_n 0, 1) := by decide +kernel
theorem dX10_handles_73 : decode cX10_handles 73 = .ok (.getfield 32, 3) := by decide +kernel
theorem dX10_handles_76 : decode cX10_handles 76 = .ok (.bipush 7, 2) := by decide +kernel
theorem dX10_handles_78 : decode cX10_handles 78 = .ok (.aload_n 0, 1) := by decide +kernel
theorem dX10_handles_79 : decode cX10_handles 79 = .ok (.getfield 112, 3) := by decide +kernel
theorem dX10_handles_82 : decode cX10_handles 82 = .ok (.iconst 5, 1) := by decide +kernel
theorem dX10_handles_83 : decode cX10_handles 83 = .ok (.if_icmp .ne 13, 3) := by decide +kernel
theorem dX10_handles_86 : decode cX10_handles 86 = .ok (.bipush 100, 2) := by decide +kernel
theorem dX10_handles_88 : decode cX10_handles 88 = .ok (.aload_n 0, 1) := by decide +kernel
theorem dX10_handles_89 : decode cX10_handles 89 = .ok (.getfield 115, 3) := by decide +kernel
theorem dX10_handles_92 : decode cX10_handles 92 = .ok (.iadd, 1) := by decide +kernel
theorem dX10_handles_93 : decode cX10_handles 93 = .ok (.goto 7, 3) := by decide +kernel
theorem dX10_handles_96 : decode cX10_handles 96 = .ok (.aload_n 0, 1) := by decide +kernel
theorem dX10_handles_97 : decode cX10_handles 97 = .ok (.getfield 112, 3) := by decide +kernel
theorem dX10_handles_100 : decode cX10_handles 100 = .ok (.iastore, 1) := by decide +kernel
theorem dX10_handles_101 : decode cX10_handles 101 = .ok (.aload_n 0, 1) := by decide +kernel
theorem dX10_handles_102 : decode cX10_handles 102 = .ok (.iload_n 1, 1) := by decide +kernel
theorem dX10_handles_103 : decode cX10_handles 103 = .ok (.invokevirtual 195, 3) := by decide +kernel
theorem dX10_handles_106 : decode cX10_handles 106 = .ok (.aload_n 0, 1) := by decide +kernel
theorem dX10_handles_107 : decode cX10_handles 107 = .ok (.aload_n 0, 1) := by decide +kernel
theorem dX10_handles_108 : decode cX10_handles 108 = .ok (.getfield 23, 3) := by decide +kernel
theorem dX10_handles_111 : decode cX10_handles 111 = .ok (.iload_n 1, 1) := by decide +kernel
theorem dX10_handles_112 : decode cX10_handles 112 = .ok (.iaload, 1) := by decide +kernel
theorem dX10_handles_113 : decode cX10_handles 113 = .ok (.invokevirtual 198, 3) := by decide +kernel
theorem dX10_handles_116 : decode cX10_handles 116 = .ok (.return_, 1) := by decide +kernel
theorem dX10_finalOf_0 : decode cX10_finalOf 0 = .ok (.aload_n 0, 1) := by decide +kernel
theorem dX10_finalOf_1 : decode cX10_finalOf 1 = .ok (.getfield 106, 3) := by decide +kernel
theorem dX10_finalOf_4 : decode cX10_finalOf 4 = .ok (.iconst 1, 1) := by decide +kernel
theorem dX10_finalOf_5 : decode cX10_finalOf 5 = .ok (.isub, 1) := by decide +kernel
theorem dX10_finalOf_6 : decode cX10_finalOf 6 = .ok (.istore_n 2, 1) := by decide +kernel
theorem dX10_finalOf_7 : decode cX10_finalOf 7 = .ok (.aload_n 0, 1) := by decide +kernel
theorem dX10_finalOf_8 : decode cX10_finalOf 8 = .ok (.getfield 68, 3) := by decide +kernel
theorem dX10_finalOf_11 : decode cX10_finalOf 11 = .ok (.iload_n 2, 1) := by decide +kernel
theorem dX10_finalOf_12 : decode cX10_finalOf 12 = .ok (.aload_n 0, 1) := by decide +kernel
theorem dX10_finalOf_13 : decode cX10_finalOf 13 = .ok (.getfield 109, 3) := by decide +kernel
theorem dX10_finalOf_16 : decode cX10_finalOf 16 = .ok (.iastore, 1) := by decide +kernel
theorem dX10_finalOf_17 : decode cX10_finalOf 17 = .ok (.aload_n 0, 1) := by decide +kernel
theorem dX10_finalOf_18 : decode cX10_finalOf 18 = .ok (.getfield 71, 3) := by decide +kernel
theorem dX10_finalOf_21 : decode cX10_finalOf 21 = .ok (.iload_n 2, 1) := by decide +kernel
theorem dX10_finalOf_22 : decode cX10_finalOf 22 = .ok (.aload_n 0, 1) := by decide +kernel
theorem dX10_finalOf_23 : decode cX10_finalOf 23 = .ok (.getfield 112, 3) := by decide +kernel
theorem dX10_finalOf_26 : decode cX10_finalOf 26 = .ok (.iastore, 1) := by decide +kernel
theorem dX10_finalOf_27 : decode cX10_finalOf 27 = .ok (.aload_n 0, 1) := by decide +kernel
theorem dX10_finalOf_28 : decode cX10_finalOf 28 = .ok (.getfield 74, 3) := by decide +kernel
theorem dX10_finalOf_31 : decode cX10_finalOf 31 = .ok (.iload_n 2, 1) := by decide +kernel
theorem dX10_finalOf_32 : decode cX10_finalOf 32 = .ok (.aload_n 0, 1) := by decide +kernel
theorem dX10_finalOf_33 : decode cX10_finalOf 33 = .ok (.getfield 115, 3) := by decide +kernel
theorem dX10_finalOf_36 : decode cX10_finalOf 36 = .ok (.iastore, 1) := by decide +kernel
theorem dX10_finalOf_37 : decode cX10_finalOf 37 = .ok (.aload_n 0, 1) := by decide +kernel
theorem dX10_finalOf_38 : decode cX10_finalOf 38 = .ok (.getfield 109, 3) := by decide +kernel
theorem dX10_finalOf_41 : decode cX10_finalOf 41 = .ok (.iconst 3, 1) := by decide +kernel
theorem dX10_finalOf_42 : decode cX10_finalOf 42 = .ok (.if_icmp .ne 28, 3) := by decide +kernel
theorem dX10_finalOf_45 : decode cX10_finalOf 45 = .ok (.aload_n 0, 1) := by decide +kernel
theorem dX10_finalOf_46 : decode cX10_finalOf 46 = .ok (.getfield 128, 3) := by decide +kernel
theorem dX10_finalOf_49 : decode cX10_finalOf 49 = .ok (.bipush 10, 2) := by decide +kernel
theorem dX10_finalOf_51 : decode cX10_finalOf 51 = .ok (.if_icmp .ge 14, 3) := by decide +kernel
theorem dX10_finalOf_54 : decode cX10_finalOf 54 = .ok (.aload_n 0, 1) := by decide +kernel
theorem dX10_finalOf_55 : decode cX10_finalOf 55 = .ok (.dup, 1) := by decide +kernel
theorem dX10_finalOf_56 : decode cX10_finalOf 56 = .ok (.getfield 106, 3) := by decide +kernel
theorem dX10_finalOf_59 : decode cX10_finalOf 59 = .ok (.iconst 1, 1) := by decide +kernel
theorem dX10_finalOf_60 : decode cX10_finalOf 60 = .ok (.isub, 1) := by decide +kernel
theorem dX10_finalOf_61 : decode cX10_finalOf 61 = .ok (.putfield 106, 3) := by decide +kernel
theorem dX10_finalOf_64 : decode cX10_finalOf 64 = .ok (.return_, 1) := by decide +kernel
theorem dX10_finalOf_65 : decode cX10_finalOf 65 = .ok (.aload_n 0, 1) := by decide +kernel
theorem dX10_finalOf_66 : decode cX10_finalOf 66 = .ok (.iload_n 2, 1) := by decide +kernel
theorem dX10_finalOf_67 : decode cX10_finalOf 67 = .ok (.putfield 122, 3) := by decide +kernel
theorem dX10_finalOf_70 : decode cX10_finalOf 70 = .ok (.aload_n 0, 1) := by decide +kernel
theorem dX10_finalOf_71 : decode cX10_finalOf 71 = .ok (.iconst 3, 1) := by decide +kernel
theorem dX10_finalOf_72 : decode cX10_finalOf 72 = .ok (.bipush 10, 2) := by decide +kernel
theorem dX10_finalOf_74 : decode cX10_finalOf 74 = .ok (.invokevirtual 153, 3) := by decide +kernel
theorem dX10_finalOf_77 : decode cX10_finalOf 77 = .ok (.ifCond .ne 4, 3) := by decide +kernel
theorem dX10_finalOf_80 : decode cX10_finalOf 80 = .ok (.return_, 1) := by decide +kernel
theorem dX10_finalOf_81 : decode cX10_finalOf 81 = .ok (.aload_n 0, 1) := by decide +kernel
theorem dX10_finalOf_82 : decode cX10_finalOf 82 = .ok (.iload_n 1, 1) := by decide +kernel
theorem dX10_finalOf_83 : decode cX10_finalOf 83 = .ok (.invokevirtual 195, 3) := by decide +kernel
theorem dX10_finalOf_86 : decode cX10_finalOf 86 = .ok (.aload_n 0, 1) := by decide +kernel
theorem dX10_finalOf_87 : decode cX10_finalOf 87 = .ok (.aload_n 0, 1) := by decide +kernel
theorem dX10_finalOf_88 : decode cX10_finalOf 88 = .ok (.getfield 20, 3) := by decide +kernel
theorem dX10_finalOf_91 : decode cX10_finalOf 91 = .ok (.iload_n 1, 1) := by decide +kernel
theorem dX10_finalOf_92 : decode cX10_finalOf 92 = .ok (.iaload, 1) := by decide +kernel
theorem dX10_finalOf_93 : decode cX10_finalOf 93 = .ok (.invokevirtual 198, 3) := by decide +kernel
theorem dX10_finalOf_96 : decode cX10_finalOf 96 = .ok (.return_, 1) := by decide +kernel
theorem dX10_lastDone_0 : decode cX10_lastDone 0 = .ok (.aload_n 0, 1) := by decide +kernel
theorem dX10_lastDone_1 : decode cX10_lastDone 1 = .ok (.getfield 106, 3) := by decide +kernel
theorem dX10_lastDone_4 : decode cX10_lastDone 4 = .ok (.iconst 1, 1) := by decide +kernel
theorem dX10_lastDone_5 : decode cX10_lastDone 5 = .ok (.isub, 1) := by decide +kernel
theorem dX10_lastDone_6 : decode cX10_lastDone 6 = .ok (.istore_n 1, 1) := by decide +kernel
theorem dX10_lastDone_7 : decode cX10_lastDone 7 = .ok (.aload_n 0, 1) := by decide +kernel
theorem dX10_lastDone_8 : decode cX10_lastDone 8 = .ok (.getfield 122, 3) := by decide +kernel
theorem dX10_lastDone_11 : decode cX10_lastDone 11 = .ok (.iload_n 1, 1) := by decide +kernel
theorem dX10_lastDone_12 : decode cX10_lastDone 12 = .ok (.if_icmp .ne 14, 3) := by decide +kernel
theorem dX10_lastDone_15 : decode cX10_lastDone 15 = .ok (.aload_n 0, 1) := by decide +kernel
theorem dX10_lastDone_16 : decode cX10_lastDone 16 = .ok (.iconst (-1), 1) := by decide +kernel
theorem dX10_lastDone_17 : decode cX10_lastDone 17 = .ok (.putfield 122, 3) := by decide +kernel
theorem dX10_lastDone_20 : decode cX10_lastDone 20 = .ok (.aload_n 0, 1) := by decide +kernel
theorem dX10_lastDone_21 : decode cX10_lastDone 21 = .ok (.iconst 3, 1) := by decide +kernel
theorem dX10_lastDone_22 : decode cX10_lastDone 22 = .ok (.invokevirtual 118, 3) := by decide +kernel
theorem dX10_lastDone_25 : decode cX10_lastDone 25 = .ok (.return_, 1) := by decide +kernel
theorem dX10_lastDone_26 : decode cX10_lastDone 26 = .ok (.aload_n 0, 1) := by decide +kernel
theorem dX10_lastDone_27 : decode cX10_lastDone 27 = .ok (.getfield 109, 3) := by decide +kernel
theorem dX10_lastDone_30 : decode cX10_lastDone 30 = .ok (.ifCond .ne 7, 3) := by decide +kernel
theorem dX10_lastDone_33 : decode cX10_lastDone 33 = .ok (.iconst 1, 1) := by decide +kernel
theorem dX10_lastDone_34 : decode cX10_lastDone 34 = .ok (.goto 4, 3) := by decide +kernel
theorem dX10_lastDone_37 : decode cX10_lastDone 37 = .ok (.iconst 0, 1) := by decide +kernel
theorem dX10_lastDone_38 : decode cX10_lastDone 38 = .ok (.istore_n 2, 1) := by decide +kernel
theorem dX10_lastDone_39 : decode cX10_lastDone 39 = .ok (.iload_n 2, 1) := by decide +kernel
theorem dX10_lastDone_40 : decode cX10_lastDone 40 = .ok (.ifCond .eq 12, 3) := by decide +kernel
theorem dX10_lastDone_43 : decode cX10_lastDone 43 = .ok (.aload_n 0, 1) := by decide +kernel
theorem dX10_lastDone_44 : decode cX10_lastDone 44 = .ok (.getfield 68, 3) := by decide +kernel
theorem dX10_lastDone_47 : decode cX10_lastDone 47 = .ok (.iload_n 1, 1) := by decide +kernel
theorem dX10_lastDone_48 : decode cX10_lastDone 48 = .ok (.iaload, 1) := by decide +kernel
theorem dX10_lastDone_49 : decode cX10_lastDone 49 = .ok (.goto 7, 3) := by decide +kernel
theorem dX10_lastDone_52 : decode cX10_lastDone 52 = .ok (.aload_n 0, 1) := by decide +kernel
theorem dX10_lastDone_53 : decode cX10_lastDone 53 = .ok (.getfield 109, 3) := by decide +kernel
theorem dX10_lastDone_56 : decode cX10_lastDone 56 = .ok (.istore_n 3, 1) := by decide +kernel
theorem dX10_lastDone_57 : decode cX10_lastDone 57 = .ok (.aload_n 0, 1) := by decide +kernel
theorem dX10_lastDone_58 : decode cX10_lastDone 58 = .ok (.iload_n 2, 1) := by decide +kernel
theorem dX10_lastDone_59 : decode cX10_lastDone 59 = .ok (.ifCond .eq 12, 3) := by decide +kernel
theorem dX10_lastDone_62 : decode cX10_lastDone 62 = .ok (.aload_n 0, 1) := by decide +kernel
theorem dX10_lastDone_63 : decode cX10_lastDone 63 = .ok (.getfield 71, 3) := by decide +kernel
theorem dX10_lastDone_66 : decode cX10_lastDone 66 = .ok (.iload_n 1, 1) := by decide +kernel
theorem dX10_lastDone_67 : decode cX10_lastDone 67 = .ok (.iaload, 1) := by decide +kernel
theorem dX10_lastDone_68 : decode cX10_lastDone 68 = .ok (.goto 7, 3) := by decide +kernel
theorem dX10_lastDone_71 : decode cX10_lastDone 71 = .ok (.aload_n 0, 1) := by decide +kernel
theorem dX10_lastDone_72 : decode cX10_lastDone 72 = .ok (.getfield 112, 3) := by decide +kernel
theorem dX10_lastDone_75 : decode cX10_lastDone 75 = .ok (.putfield 112, 3) := by decide +kernel
theorem dX10_lastDone_78 : decode cX10_lastDone 78 = .ok (.aload_n 0, 1) := by decide +kernel
theorem dX10_lastDone_79 : decode cX10_lastDone 79 = .ok (.iload_n 2, 1) := by decide +kernel
theorem dX10_lastDone_80 : decode cX10_lastDone 80 = .ok (.ifCond .eq 12, 3) := by decide +kernel
theorem dX10_lastDone_83 : decode cX10_lastDone 83 = .ok (.aload_n 0, 1) := by decide +kernel
theorem dX10_lastDone_84 : decode cX10_lastDone 84 = .ok (.getfield 74, 3) := by decide +kernel
theorem dX10_lastDone_87 : decode cX10_lastDone 87 = .ok (.iload_n 1, 1) := by decide +kernel
theorem dX10_lastDone_88 : decode cX10_lastDone 88 = .ok (.iaload, 1) := by decide +kernel
theorem dX10_lastDone_89 : decode cX10_lastDone 89 = .ok (.goto 7, 3) := by decide +kernel
theorem dX10_lastDone_92 : decode cX10_lastDone 92 = .ok (.aload_n 0, 1) := by decide +kernel
theorem dX10_lastDone_93 : decode cX10_lastDone 93 = .ok (.getfield 115, 3) := by decide +kernel
theorem dX10_lastDone_96 : decode cX10_lastDone 96 = .ok (.putfield 115, 3) := by decide +kernel
theorem dX10_lastDone_99 : decode cX10_lastDone 99 = .ok (.aload_n 0, 1) := by decide +kernel
theorem dX10_lastDone_100 : decode cX10_lastDone 100 = .ok (.iload_n 3, 1) := by decide +kernel
theorem dX10_lastDone_101 : decode cX10_lastDone 101 = .ok (.invokevirtual 118, 3) := by decide +kernel
theorem dX10_lastDone_104 : decode cX10_lastDone 104 = .ok (.return_, 1) := by decide +kernel
theorem dX10_tell_0 : decode cX10_tell 0 = .ok (.aload_n 0, 1) := by decide +kernel
theorem dX10_tell_1 : decode cX10_tell 1 = .ok (.getfield 106, 3) := by decide +kernel
theorem dX10_tell_4 : decode cX10_tell 4 = .ok (.iconst 1, 1) := by decide +kernel
theorem dX10_tell_5 : decode cX10_tell 5 = .ok (.isub, 1) := by decide +kernel
theorem dX10_tell_6 : decode cX10_tell 6 = .ok (.istore_n 1, 1) := by decide +kernel
theorem dX10_tell_7 : decode cX10_tell 7 = .ok (.aload_n 0, 1) := by decide +kernel
theorem dX10_tell_8 : decode cX10_tell 8 = .ok (.getfield 62, 3) := by decide +kernel
theorem dX10_tell_11 : decode cX10_tell 11 = .ok (.iload_n 1, 1) := by decide +kernel
theorem dX10_tell_12 : decode cX10_tell 12 = .ok (.iaload, 1) := by decide +kernel
theorem dX10_tell_13 : decode cX10_tell 13 = .ok (.istore_n 2, 1) := by decide +kernel
theorem dX10_tell_14 : decode cX10_tell 14 = .ok (.aload_n 0, 1) := by decide +kernel
theorem dX10_tell_15 : decode cX10_tell 15 = .ok (.getfield 13, 3) := by decide +kernel
theorem dX10_tell_18 : decode cX10_tell 18 = .ok (.iload_n 2, 1) := by decide +kernel
theorem dX10_tell_19 : decode cX10_tell 19 = .ok (.iaload, 1) := by decide +kernel
theorem dX10_tell_20 : decode cX10_tell 20 = .ok (.tableswitch 199 12 20 #[52, 199, 93, 128, 199, 199, 154, 160, 183], 52) := by decide +kernel
theorem dX10_tell_72 : decode cX10_tell 72 = .ok (.aload_n 0, 1) := by decide +kernel
theorem dX10_tell_73 : decode cX10_tell 73 = .ok (.getfield 65, 3) := by decide +kernel
theorem dX10_tell_76 : decode cX10_tell 76 = .ok (.iload_n 1, 1) := by decide +kernel
theorem dX10_tell_77 : decode cX10_tell 77 = .ok (.iaload, 1) := by decide +kernel
theorem dX10_tell_78 : decode cX10_tell 78 = .ok (.iconst 1, 1) := by decide +kernel
theorem dX10_tell_79 : decode cX10_tell 79 = .ok (.if_icmp .ne 23, 3) := by decide +kernel
theorem dX10_tell_82 : decode cX10_tell 82 = .ok (.aload_n 0, 1) := by decide +kernel
theorem dX10_tell_83 : decode cX10_tell 83 = .ok (.getfield 109, 3) := by decide +kernel
theorem dX10_tell_86 : decode cX10_tell 86 = .ok (.ifCond .ne 16, 3) := by decide +kernel
theorem dX10_tell_89 : decode cX10_tell 89 = .ok (.aload_n 0, 1) := by decide +kernel
theorem dX10_tell_90 : decode cX10_tell 90 = .ok (.aload_n 0, 1) := by decide +kernel
theorem dX10_tell_91 : decode cX10_tell 91 = .ok (.getfield 20, 3) := by decide +kernel
theorem dX10_tell_94 : decode cX10_tell 94 = .ok (.iload_n 2, 1) := by decide +kernel
theorem dX10_tell_95 : decode cX10_tell 95 = .ok (.iaload, 1) := by decide +kernel
theorem dX10_tell_96 : decode cX10_tell 96 = .ok (.invokevirtual 198, 3) := by decide +kernel
theorem dX10_tell_99 : decode cX10_tell 99 = .ok (.goto 13, 3) := by decide +kernel
theorem dX10_tell_102 : decode cX10_tell 102 = .ok (.aload_n 0, 1) := by decide +kernel
theorem dX10_tell_103 : decode cX10_tell 103 = .ok (.dup, 1) := by decide +kernel
theorem dX10_tell_104 : decode cX10_tell 104 = .ok (.getfield 106, 3) := by decide +kernel
theorem dX10_tell_107 : decode cX10_tell 107 = .ok (.iconst 1, 1) := by decide +kernel
theorem dX10_tell_108 : decode cX10_tell 108 = .ok (.isub, 1) := by decide +kernel
theorem dX10_tell_109 : decode cX10_tell 109 = .ok (.putfield 106, 3) := by decide +kernel
theorem dX10_tell_112 : decode cX10_tell 112 = .ok (.return_, 1) := by decide +kernel
theorem dX10_tell_113 : decode cX10_tell 113 = .ok (.aload_n 0, 1) := by decide +kernel
theorem dX10_tell_114 : decode cX10_tell 114 = .ok (.getfield 109, 3) := by decide +kernel
theorem dX10_tell_117 : decode cX10_tell 117 = .ok (.ifCond .eq 16, 3) := by decide +kernel
theorem dX10_tell_120 : decode cX10_tell 120 = .ok (.aload_n 0, 1) := by decide +kernel
theorem dX10_tell_121 : decode cX10_tell 121 = .ok (.dup, 1) := by decide +kernel
theorem dX10_tell_122 : decode cX10_tell 122 = .ok (.getfield 106, 3) := by decide +kernel
theorem dX10_tell_125 : decode cX10_tell 125 = .ok (.iconst 1, 1) := by decide +kernel
theorem dX10_tell_126 : decode cX10_tell 126 = .ok (.isub, 1) := by decide +kernel
theorem dX10_tell_127 : decode cX10_tell 127 = .ok (.putfield 106, 3) := by decide +kernel
theorem dX10_tell_130 : decode cX10_tell 130 = .ok (.goto 17, 3) := by decide +kernel
theorem dX10_tell_133 : decode cX10_tell 133 = .ok (.aload_n 0, 1) := by decide +kernel
theorem dX10_tell_134 : decode cX10_tell 134 = .ok (.iconst 0, 1) := by decide +kernel
theorem dX10_tell_135 : decode cX10_tell 135 = .ok (.iconst 1, 1) := by decide +kernel
theorem dX10_tell_136 : decode cX10_tell 136 = .ok (.invokevirtual 153, 3) := by decide +kernel
theorem dX10_tell_139 : decode cX10_tell 139 = .ok (.ifCond .eq 8, 3) := by decide +kernel
theorem dX10_tell_142 : decode cX10_tell 142 = .ok (.aload_n 0, 1) := by decide +kernel
theorem dX10_tell_143 : decode cX10_tell 143 = .ok (.iconst (-1), 1) := by decide +kernel
theorem dX10_tell_144 : decode cX10_tell 144 = .ok (.putfield 109, 3) := by decide +kernel
theorem dX10_tell_147 : decode cX10_tell 147 = .ok (.return_, 1) := by decide +kernel
theorem dX10_tell_148 : decode cX10_tell 148 = .ok (.aload_n 0, 1) := by decide +kernel
theorem dX10_tell_149 : decode cX10_tell 149 = .ok (.iload_n 1, 1) := by decide +kernel
theorem dX10_tell_150 : decode cX10_tell 150 = .ok (.invokevirtual 140, 3) := by decide +kernel
theorem dX10_tell_153 : decode cX10_tell 153 = .ok (.aload_n 0, 1) := by decide +kernel
theorem dX10_tell_154 : decode cX10_tell 154 = .ok (.aload_n 0, 1) := by decide +kernel
theorem dX10_tell_155 : decode cX10_tell 155 = .ok (.getfield 109, 3) := by decide +kernel
theorem dX10_tell_158 : decode cX10_tell 158 = .ok (.iconst 1, 1) := by decide +kernel
theorem dX10_tell_159 : decode cX10_tell 159 = .ok (.if_icmp .ne 7, 3) := by decide +kernel
theorem dX10_tell_162 : decode cX10_tell 162 = .ok (.iconst 0, 1) := by decide +kernel
theorem dX10_tell_163 : decode cX10_tell 163 = .ok (.goto 7, 3) := by decide +kernel
theorem dX10_tell_166 : decode cX10_tell 166 = .ok (.aload_n 0, 1) := by decide +kernel
theorem dX10_tell_167 : decode cX10_tell 167 = .ok (.getfield 109, 3) := by decide +kernel
theorem dX10_tell_170 : decode cX10_tell 170 = .ok (.invokevirtual 118, 3) := by decide +kernel
theorem dX10_tell_173 : decode cX10_tell 173 = .ok (.return_, 1) := by decide +kernel
theorem dX10_tell_174 : decode cX10_tell 174 = .ok (.aload_n 0, 1) := by decide +kernel
theorem dX10_tell_175 : decode cX10_tell 175 = .ok (.iload_n 2, 1) := by decide +kernel
theorem dX10_tell_176 : decode cX10_tell 176 = .ok (.invokevirtual 201, 3) := by decide +kernel
theorem dX10_tell_179 : decode cX10_tell 179 = .ok (.return_, 1) := by decide +kernel
theorem dX10_tell_180 : decode cX10_tell 180 = .ok (.aload_n 0, 1) := by decide +kernel
theorem dX10_tell_181 : decode cX10_tell 181 = .ok (.getfield 65, 3) := by decide +kernel
theorem dX10_tell_184 : decode cX10_tell 184 = .ok (.iload_n 1, 1) := by decide +kernel
theorem dX10_tell_185 : decode cX10_tell 185 = .ok (.iaload, 1) := by decide +kernel
theorem dX10_tell_186 : decode cX10_tell 186 = .ok (.iconst 1, 1) := by decide +kernel
theorem dX10_tell_187 : decode cX10_tell 187 = .ok (.if_icmp .ne 11, 3) := by decide +kernel
theorem dX10_tell_190 : decode cX10_tell 190 = .ok (.aload_n 0, 1) := by decide +kernel
theorem dX10_tell_191 : decode cX10_tell 191 = .ok (.iload_n 2, 1) := by decide +kernel
theorem dX10_tell_192 : decode cX10_tell 192 = .ok (.invokevirtual 204, 3) := by decide +kernel
theorem dX10_tell_195 : decode cX10_tell 195 = .ok (.goto 7, 3) := by decide +kernel
theorem dX10_tell_198 : decode cX10_tell 198 = .ok (.aload_n 0, 1) := by decide +kernel
theorem dX10_tell_199 : decode cX10_tell 199 = .ok (.invokevirtual 207, 3) := by decide +kernel
theorem dX10_tell_202 : decode cX10_tell 202 = .ok (.return_, 1) := by decide +kernel
theorem dX10_tell_203 : decode cX10_tell 203 = .ok (.aload_n 0, 1) := by decide +kernel
theorem dX10_tell_204 : decode cX10_tell 204 = .ok (.iload_n 1, 1) := by decide +kernel
theorem dX10_tell_205 : decode cX10_tell 205 = .ok (.invokevirtual 140, 3) := by decide +kernel
theorem dX10_tell_208 : decode cX10_tell 208 = .ok (.aload_n 0, 1) := by decide +kernel
theorem dX10_tell_209 : decode cX10_tell 209 = .ok (.dup, 1) := by decide +kernel
theorem dX10_tell_210 : decode cX10_tell 210 = .ok (.getfield 106, 3) := by decide +kernel
theorem dX10_tell_213 : decode cX10_tell 213 = .ok (.iconst 1, 1) := by decide +kernel
theorem dX10_tell_214 : decode cX10_tell 214 = .ok (.isub, 1) := by decide +kernel
theorem dX10_tell_215 : decode cX10_tell 215 = .ok (.putfield 106, 3) := by decide +kernel
theorem dX10_tell_218 : decode cX10_tell 218 = .ok (.return_, 1) := by decide +kernel
theorem dX10_tell_219 : decode cX10_tell 219 = .ok (.aload_n 0, 1) := by decide +kernel
theorem dX10_tell_220 : decode cX10_tell 220 = .ok (.dup, 1) := by decide +kernel
theorem dX10_tell_221 : decode cX10_tell 221 = .ok (.getfield 106, 3) := by decide +kernel
theorem dX10_tell_224 : decode cX10_tell 224 = .ok (.iconst 1, 1) := by decide +kernel
theorem dX10_tell_225 : decode cX10_tell 225 = .ok (.isub, 1) := by decide +kernel
theorem dX10_tell_226 : decode cX10_tell 226 = .ok (.putfield 106, 3) := by decide +kernel
theorem dX10_tell_229 : decode cX10_tell 229 = .ok (.return_, 1) := by decide +kernel
theorem dX10_reset_0 : decode cX10_reset 0 = .ok (.iconst 0, 1) := by decide +kernel
theorem dX10_reset_1 : decode cX10_reset 1 = .ok (.istore_n 3, 1) := by decide +kernel
theorem dX10_reset_2 : decode cX10_reset 2 = .ok (.iload_n 3, 1) := by decide +kernel
theorem dX10_reset_3 : decode cX10_reset 3 = .ok (.bipush 8, 2) := by decide +kernel
theorem dX10_reset_5 : decode cX10_reset 5 = .ok (.if_icmp .ge 16, 3) := by decide +kernel
theorem dX10_reset_8 : decode cX10_reset 8 = .ok (.aload_n 0, 1) := by decide +kernel
theorem dX10_reset_9 : decode cX10_reset 9 = .ok (.getfield 32, 3) := by decide +kernel
theorem dX10_reset_12 : decode cX10_reset 12 = .ok (.iload_n 3, 1) := by decide +kernel
theorem dX10_reset_13 : decode cX10_reset 13 = .ok (.iconst 0, 1) := by decide +kernel
theorem dX10_reset_14 : decode cX10_reset 14 = .ok (.iastore, 1) := by decide +kernel
theorem dX10_reset_15 : decode cX10_reset 15 = .ok (.iinc 3 1, 3) := by decide +kernel
theorem dX10_reset_18 : decode cX10_reset 18 = .ok (.goto (-16), 3) := by decide +kernel
theorem dX10_reset_21 : decode cX10_reset 21 = .ok (.iconst 0, 1) := by decide +kernel
theorem dX10_reset_22 : decode cX10_reset 22 = .ok (.istore_n 3, 1) := by decide +kernel
theorem dX10_reset_23 : decode cX10_reset 23 = .ok (.iload_n 3, 1) := by decide +kernel
theorem dX10_reset_24 : decode cX10_reset 24 = .ok (.iconst 4, 1) := by decide +kernel
theorem dX10_reset_25 : decode cX10_reset 25 = .ok (.if_icmp .ge 23, 3) := by decide +kernel
theorem dX10_reset_28 : decode cX10_reset 28 = .ok (.aload_n 0, 1) := by decide +kernel
theorem dX10_reset_29 : decode cX10_reset 29 = .ok (.getfield 35, 3) := by decide +kernel
theorem dX10_reset_32 : decode cX10_reset 32 = .ok (.iload_n 3, 1) := by decide +kernel
theorem dX10_reset_33 : decode cX10_reset 33 = .ok (.iconst (-1), 1) := by decide +kernel
theorem dX10_reset_34 : decode cX10_reset 34 = .ok (.iastore, 1) := by decide +kernel
theorem dX10_reset_35 : decode cX10_reset 35 = .ok (.aload_n 0, 1) := by decide +kernel
theorem dX10_reset_36 : decode cX10_reset 36 = .ok (.getfield 38, 3) := by decide +kernel
theorem dX10_reset_39 : decode cX10_reset 39 = .ok (.iload_n 3, 1) := by decide +kernel
theorem dX10_reset_40 : decode cX10_reset 40 = .ok (.iconst 0, 1) := by decide +kernel
theorem dX10_reset_41 : decode cX10_reset 41 = .ok (.iastore, 1) := by decide +kernel
theorem dX10_reset_42 : decode cX10_reset 42 = .ok (.iinc 3 1, 3) := by decide +kernel
theorem dX10_reset_45 : decode cX10_reset 45 = .ok (.goto (-22), 3) := by decide +kernel
theorem dX10_reset_48 : decode cX10_reset 48 = .ok (.iconst 0, 1) := by decide +kernel
theorem dX10_reset_49 : decode cX10_reset 49 = .ok (.istore_n 3, 1) := by decide +kernel
theorem dX10_reset_50 : decode cX10_reset 50 = .ok (.iload_n 3, 1) := by decide +kernel
theorem dX10_reset_51 : decode cX10_reset 51 = .ok (.iconst 5, 1) := by decide +kernel
theorem dX10_reset_52 : decode cX10_reset 52 = .ok (.if_icmp .ge 16, 3) := by decide +kernel
theorem dX10_reset_55 : decode cX10_reset 55 = .ok (.aload_n 0, 1) := by decide +kernel
theorem dX10_reset_56 : decode cX10_reset 56 = .ok (.getfield 50, 3) := by decide +kernel
theorem dX10_reset_59 : decode cX10_reset 59 = .ok (.iload_n 3, 1) := by decide +kernel
theorem dX10_reset_60 : decode cX10_reset 60 = .ok (.iconst 0, 1) := by decide +kernel
theorem dX10_reset_61 : decode cX10_reset 61 = .ok (.iastore, 1) := by decide +kernel
theorem dX10_reset_62 : decode cX10_reset 62 = .ok (.iinc 3 1, 3) := by decide +kernel
theorem dX10_reset_65 : decode cX10_reset 65 = .ok (.goto (-15), 3) := by decide +kernel
theorem dX10_reset_68 : decode cX10_reset 68 = .ok (.aload_n 0, 1) := by decide +kernel
theorem dX10_reset_69 : decode cX10_reset 69 = .ok (.getfield 32, 3) := by decide +kernel
theorem dX10_reset_72 : decode cX10_reset 72 = .ok (.iconst 0, 1) := by decide +kernel
theorem dX10_reset_73 : decode cX10_reset 73 = .ok (.iload_n 1, 1) := by decide +kernel
theorem dX10_reset_74 : decode cX10_reset 74 = .ok (.iastore, 1) := by decide +kernel
theorem dX10_reset_75 : decode cX10_reset 75 = .ok (.aload_n 0, 1) := by decide +kernel
theorem dX10_reset_76 : decode cX10_reset 76 = .ok (.iconst 0, 1) := by decide +kernel
theorem dX10_reset_77 : decode cX10_reset 77 = .ok (.putfield 156, 3) := by decide +kernel
theorem dX10_reset_80 : decode cX10_reset 80 = .ok (.aload_n 0, 1) := by decide +kernel
theorem dX10_reset_81 : decode cX10_reset 81 = .ok (.iconst 0, 1) := by decide +kernel
theorem dX10_reset_82 : decode cX10_reset 82 = .ok (.putfield 159, 3) := by decide +kernel
theorem dX10_reset_85 : decode cX10_reset 85 = .ok (.aload_n 0, 1) := by decide +kernel
theorem dX10_reset_86 : decode cX10_reset 86 = .ok (.iload_n 2, 1) := by decide +kernel
theorem dX10_reset_87 : decode cX10_reset 87 = .ok (.putfield 125, 3) := by decide +kernel
theorem dX10_reset_90 : decode cX10_reset 90 = .ok (.aload_n 0, 1) := by decide +kernel
theorem dX10_reset_91 : decode cX10_reset 91 = .ok (.bipush 40, 2) := by decide +kernel
theorem dX10_reset_93 : decode cX10_reset 93 = .ok (.putfield 128, 3) := by decide +kernel
theorem dX10_reset_96 : decode cX10_reset 96 = .ok (.aload_n 0, 1) := by decide +kernel
theorem dX10_reset_97 : decode cX10_reset 97 = .ok (.iconst 0, 1) := by decide +kernel
theorem dX10_reset_98 : decode cX10_reset 98 = .ok (.putfield 134, 3) := by decide +kernel
theorem dX10_reset_101 : decode cX10_reset 101 = .ok (.aload_n 0, 1) := by decide +kernel
theorem dX10_reset_102 : decode cX10_reset 102 = .ok (.iconst 0, 1) := by decide +kernel
theorem dX10_reset_103 : decode cX10_reset 103 = .ok (.putfield 137, 3) := by decide +kernel
theorem dX10_reset_106 : decode cX10_reset 106 = .ok (.aload_n 0, 1) := by decide +kernel
theorem dX10_reset_107 : decode cX10_reset 107 = .ok (.iconst 0, 1) := by decide +kernel
theorem dX10_reset_108 : decode cX10_reset 108 = .ok (.putfield 146, 3) := by decide +kernel
theorem dX10_reset_111 : decode cX10_reset 111 = .ok (.aload_n 0, 1) := by decide +kernel
theorem dX10_reset_112 : decode cX10_reset 112 = .ok (.iconst 0, 1) := by decide +kernel
theorem dX10_reset_113 : decode cX10_reset 113 = .ok (.putfield 168, 3) := by decide +kernel
theorem dX10_reset_116 : decode cX10_reset 116 = .ok (.aload_n 0, 1) := by decide +kernel
theorem dX10_reset_117 : decode cX10_reset 117 = .ok (.iconst 0, 1) := by decide +kernel
theorem dX10_reset_118 : decode cX10_reset 118 = .ok (.putfield 177, 3) := by decide +kernel
theorem dX10_reset_121 : decode cX10_reset 121 = .ok (.aload_n 0, 1) := by decide +kernel
theorem dX10_reset_122 : decode cX10_reset 122 = .ok (.iconst 0, 1) := by decide +kernel
theorem dX10_reset_123 : decode cX10_reset 123 = .ok (.putfield 183, 3) := by decide +kernel
theorem dX10_reset_126 : decode cX10_reset 126 = .ok (.aload_n 0, 1) := by decide +kernel
theorem dX10_reset_127 : decode cX10_reset 127 = .ok (.iconst 0, 1) := by decide +kernel
theorem dX10_reset_128 : decode cX10_reset 128 = .ok (.putfield 112, 3) := by decide +kernel
theorem dX10_reset_131 : decode cX10_reset 131 = .ok (.aload_n 0, 1) := by decide +kernel
theorem dX10_reset_132 : decode cX10_reset 132 = .ok (.iconst 0, 1) := by decide +kernel
theorem dX10_reset_133 : decode cX10_reset 133 = .ok (.putfield 115, 3) := by decide +kernel
theorem dX10_reset_136 : decode cX10_reset 136 = .ok (.aload_n 0, 1) := by decide +kernel
theorem dX10_reset_137 : decode cX10_reset 137 = .ok (.iconst 0, 1) := by decide +kernel
theorem dX10_reset_138 : decode cX10_reset 138 = .ok (.putfield 106, 3) := by decide +kernel
theorem dX10_reset_141 : decode cX10_reset 141 = .ok (.aload_n 0, 1) := by decide +kernel
theorem dX10_reset_142 : decode cX10_reset 142 = .ok (.iconst 0, 1) := by decide +kernel
theorem dX10_reset_143 : decode cX10_reset 143 = .ok (.putfield 143, 3) := by decide +kernel
theorem dX10_reset_146 : decode cX10_reset 146 = .ok (.aload_n 0, 1) := by decide +kernel
theorem dX10_reset_147 : decode cX10_reset 147 = .ok (.iconst (-1), 1) := by decide +kernel
theorem dX10_reset_148 : decode cX10_reset 148 = .ok (.putfield 122, 3) := by decide +kernel
theorem dX10_reset_151 : decode cX10_reset 151 = .ok (.return_, 1) := by decide +kernel
theorem dX10_isRun_0 : decode cX10_isRun 0 = .ok (.iload_n 1, 1) := by decide +kernel
theorem dX10_isRun_1 : decode cX10_isRun 1 = .ok (.bipush 8, 2) := by decide +kernel
theorem dX10_isRun_3 : decode cX10_isRun 3 = .ok (.invokestatic 86, 3) := by decide +kernel
theorem dX10_isRun_6 : decode cX10_isRun 6 = .ok (.ifCond .eq 28, 3) := by decide +kernel
theorem dX10_isRun_9 : decode cX10_isRun 9 = .ok (.aload_n 0, 1) := by decide +kernel
theorem dX10_isRun_10 : decode cX10_isRun 10 = .ok (.getfield 29, 3) := by decide +kernel
theorem dX10_isRun_13 : decode cX10_isRun 13 = .ok (.iload_n 1, 1) := by decide +kernel
theorem dX10_isRun_14 : decode cX10_isRun 14 = .ok (.iaload, 1) := by decide +kernel
theorem dX10_isRun_15 : decode cX10_isRun 15 = .ok (.iconst (-1), 1) := by decide +kernel
theorem dX10_isRun_16 : decode cX10_isRun 16 = .ok (.if_icmp .eq 18, 3) := by decide +kernel
theorem dX10_isRun_19 : decode cX10_isRun 19 = .ok (.iload_n 2, 1) := by decide +kernel
theorem dX10_isRun_20 : decode cX10_isRun 20 = .ok (.ifCond .lt 14, 3) := by decide +kernel
theorem dX10_isRun_23 : decode cX10_isRun 23 = .ok (.iload_n 2, 1) := by decide +kernel
theorem dX10_isRun_24 : decode cX10_isRun 24 = .ok (.sipush 160, 3) := by decide +kernel
theorem dX10_isRun_27 : decode cX10_isRun 27 = .ok (.if_icmp .gt 7, 3) := by decide +kernel
theorem dX10_isRun_30 : decode cX10_isRun 30 = .ok (.iconst 1, 1) := by decide +kernel
theorem dX10_isRun_31 : decode cX10_isRun 31 = .ok (.goto 4, 3) := by decide +kernel
theorem dX10_isRun_34 : decode cX10_isRun 34 = .ok (.iconst 0, 1) := by decide +kernel
theorem dX10_isRun_35 : decode cX10_isRun 35 = .ok (.ireturn, 1) := by decide +kernel
theorem dX10_runs_0 : decode cX10_runs 0 = .ok (.aload_n 0, 1) := by decide +kernel
theorem dX10_runs_1 : decode cX10_runs 1 = .ok (.iload_n 2, 1) := by decide +kernel
theorem dX10_runs_2 : decode cX10_runs 2 = .ok (.iload_n 3, 1) := by decide +kernel
theorem dX10_runs_3 : decode cX10_runs 3 = .ok (.invokevirtual 210, 3) := by decide +kernel
theorem dX10_runs_6 : decode cX10_runs 6 = .ok (.aload_n 0, 1) := by decide +kernel
theorem dX10_runs_7 : decode cX10_runs 7 = .ok (.iconst (-1), 1) := by decide +kernel
theorem dX10_runs_8 : decode cX10_runs 8 = .ok (.putfield 109, 3) := by decide +kernel
theorem dX10_runs_11 : decode cX10_runs 11 = .ok (.aload_n 0, 1) := by decide +kernel
theorem dX10_runs_12 : decode cX10_runs 12 = .ok (.iconst 1, 1) := by decide +kernel
theorem dX10_runs_13 : decode cX10_runs 13 = .ok (.iconst 2, 1) := by decide +kernel
theorem dX10_runs_14 : decode cX10_runs 14 = .ok (.invokevirtual 153, 3) := by decide +kernel
theorem dX10_runs_17 : decode cX10_runs 17 = .ok (.ifCond .eq 23, 3) := by decide +kernel
theorem dX10_runs_20 : decode cX10_runs 20 = .ok (.aload_n 0, 1) := by decide +kernel
theorem dX10_runs_21 : decode cX10_runs 21 = .ok (.iconst 1, 1) := by decide +kernel
theorem dX10_runs_22 : decode cX10_runs 22 = .ok (.putfield 143, 3) := by decide +kernel
theorem dX10_runs_25 : decode cX10_runs 25 = .ok (.aload_n 0, 1) := by decide +kernel
theorem dX10_runs_26 : decode cX10_runs 26 = .ok (.iconst 1, 1) := by decide +kernel
theorem dX10_runs_27 : decode cX10_runs 27 = .ok (.putfield 177, 3) := by decide +kernel
theorem dX10_runs_30 : decode cX10_runs 30 = .ok (.aload_n 0, 1) := by decide +kernel
theorem dX10_runs_31 : decode cX10_runs 31 = .ok (.aload_n 0, 1) := by decide +kernel
theorem dX10_runs_32 : decode cX10_runs 32 = .ok (.getfield 29, 3) := by decide +kernel
theorem dX10_runs_35 : decode cX10_runs 35 = .ok (.iload_n 1, 1) := by decide +kernel
theorem dX10_runs_36 : decode cX10_runs 36 = .ok (.iaload, 1) := by decide +kernel
theorem dX10_runs_37 : decode cX10_runs 37 = .ok (.invokevirtual 180, 3) := by decide +kernel
theorem dX10_runs_40 : decode cX10_runs 40 = .ok (.aload_n 0, 1) := by decide +kernel
theorem dX10_runs_41 : decode cX10_runs 41 = .ok (.getfield 106, 3) := by decide +kernel
theorem dX10_runs_44 : decode cX10_runs 44 = .ok (.ifCond .le 25, 3) := by decide +kernel
theorem dX10_runs_47 : decode cX10_runs 47 = .ok (.aload_n 0, 1) := by decide +kernel
theorem dX10_runs_48 : decode cX10_runs 48 = .ok (.getfield 109, 3) := by decide +kernel
theorem dX10_runs_51 : decode cX10_runs 51 = .ok (.iconst (-1), 1) := by decide +kernel
theorem dX10_runs_52 : decode cX10_runs 52 = .ok (.if_icmp .ne 10, 3) := by decide +kernel
theorem dX10_runs_55 : decode cX10_runs 55 = .ok (.aload_n 0, 1) := by decide +kernel
theorem dX10_runs_56 : decode cX10_runs 56 = .ok (.invokevirtual 213, 3) := by decide +kernel
theorem dX10_runs_59 : decode cX10_runs 59 = .ok (.goto (-19), 3) := by decide +kernel
theorem dX10_runs_62 : decode cX10_runs 62 = .ok (.aload_n 0, 1) := by decide +kernel
theorem dX10_runs_63 : decode cX10_runs 63 = .ok (.invokevirtual 216, 3) := by decide +kernel
theorem dX10_runs_66 : decode cX10_runs 66 = .ok (.goto (-26), 3) := by decide +kernel
theorem dX10_runs_69 : decode cX10_runs 69 = .ok (.aload_n 0, 1) := by decide +kernel
theorem dX10_runs_70 : decode cX10_runs 70 = .ok (.aload_n 0, 1) := by decide +kernel
theorem dX10_runs_71 : decode cX10_runs 71 = .ok (.getfield 109, 3) := by decide +kernel
theorem dX10_runs_74 : decode cX10_runs 74 = .ok (.putfield 56, 3) := by decide +kernel
theorem dX10_runs_77 : decode cX10_runs 77 = .ok (.aload_n 0, 1) := by decide +kernel
theorem dX10_runs_78 : decode cX10_runs 78 = .ok (.aload_n 0, 1) := by decide +kernel
theorem dX10_runs_79 : decode cX10_runs 79 = .ok (.getfield 56, 3) := by decide +kernel
theorem dX10_runs_82 : decode cX10_runs 82 = .ok (.iconst 2, 1) := by decide +kernel
theorem dX10_runs_83 : decode cX10_runs 83 = .ok (.if_icmp .ne 10, 3) := by decide +kernel
theorem dX10_runs_86 : decode cX10_runs 86 = .ok (.aload_n 0, 1) := by decide +kernel
theorem dX10_runs_87 : decode cX10_runs 87 = .ok (.getfield 112, 3) := by decide +kernel
theorem dX10_runs_90 : decode cX10_runs 90 = .ok (.goto 4, 3) := by decide +kernel
theorem dX10_runs_93 : decode cX10_runs 93 = .ok (.iconst 0, 1) := by decide +kernel
theorem dX10_runs_94 : decode cX10_runs 94 = .ok (.putfield 112, 3) := by decide +kernel
theorem dX10_runs_97 : decode cX10_runs 97 = .ok (.aload_n 0, 1) := by decide +kernel
theorem dX10_runs_98 : decode cX10_runs 98 = .ok (.aload_n 0, 1) := by decide +kernel
theorem dX10_runs_99 : decode cX10_runs 99 = .ok (.getfield 56, 3) := by decide +kernel
theorem dX10_runs_102 : decode cX10_runs 102 = .ok (.iconst 2, 1) := by decide +kernel
theorem dX10_runs_103 : decode cX10_runs 103 = .ok (.if_icmp .ne 18, 3) := by decide +kernel
theorem dX10_runs_106 : decode cX10_runs 106 = .ok (.aload_n 0, 1) := by decide +kernel
theorem dX10_runs_107 : decode cX10_runs 107 = .ok (.getfield 112, 3) := by decide +kernel
theorem dX10_runs_110 : decode cX10_runs 110 = .ok (.iconst 5, 1) := by decide +kernel
theorem dX10_runs_111 : decode cX10_runs 111 = .ok (.if_icmp .ne 10, 3) := by decide +kernel
theorem dX10_runs_114 : decode cX10_runs 114 = .ok (.aload_n 0, 1) := by decide +kernel
theorem dX10_runs_115 : decode cX10_runs 115 = .ok (.getfield 115, 3) := by decide +kernel
theorem dX10_runs_118 : decode cX10_runs 118 = .ok (.goto 4, 3) := by decide +kernel
theorem dX10_runs_121 : decode cX10_runs 121 = .ok (.iconst 0, 1) := by decide +kernel
theorem dX10_runs_122 : decode cX10_runs 122 = .ok (.putfield 115, 3) := by decide +kernel
theorem dX10_runs_125 : decode cX10_runs 125 = .ok (.aload_n 0, 1) := by decide +kernel
theorem dX10_runs_126 : decode cX10_runs 126 = .ok (.getfield 59, 3) := by decide +kernel
theorem dX10_runs_129 : decode cX10_runs 129 = .ok (.aload_n 0, 1) := by decide +kernel
theorem dX10_runs_130 : decode cX10_runs 130 = .ok (.getfield 56, 3) := by decide +kernel
theorem dX10_runs_133 : decode cX10_runs 133 = .ok (.dup2, 1) := by decide +kernel
theorem dX10_runs_134 : decode cX10_runs 134 = .ok (.iaload, 1) := by decide +kernel
theorem dX10_runs_135 : decode cX10_runs 135 = .ok (.iconst 1, 1) := by decide +kernel
theorem dX10_runs_136 : decode cX10_runs 136 = .ok (.iadd, 1) := by decide +kernel
theorem dX10_runs_137 : decode cX10_runs 137 = .ok (.iastore, 1) := by decide +kernel
theorem dX10_runs_138 : decode cX10_runs 138 = .ok (.aload_n 0, 1) := by decide +kernel
theorem dX10_runs_139 : decode cX10_runs 139 = .ok (.getfield 56, 3) := by decide +kernel
theorem dX10_runs_142 : decode cX10_runs 142 = .ok (.ireturn, 1) := by decide +kernel
theorem dX10_run_0 : decode cX10_run 0 = .ok (.aload_n 0, 1) := by decide +kernel
theorem dX10_run_1 : decode cX10_run 1 = .ok (.iconst 0, 1) := by decide +kernel
theorem dX10_run_2 : decode cX10_run 2 = .ok (.putfield 1, 3) := by decide +kernel
theorem dX10_run_5 : decode cX10_run 5 = .ok (.aload_n 0, 1) := by decide +kernel
theorem dX10_run_6 : decode cX10_run 6 = .ok (.iload_n 1, 1) := by decide +kernel
theorem dX10_run_7 : decode cX10_run 7 = .ok (.iload_n 3, 1) := by decide +kernel
theorem dX10_run_8 : decode cX10_run 8 = .ok (.invokevirtual 219, 3) := by decide +kernel
theorem dX10_run_11 : decode cX10_run 11 = .ok (.ifCond .eq 13, 3) := by decide +kernel
theorem dX10_run_14 : decode cX10_run 14 = .ok (.aload_n 0, 1) := by decide +kernel
theorem dX10_run_15 : decode cX10_run 15 = .ok (.iload_n 1, 1) := by decide +kernel
theorem dX10_run_16 : decode cX10_run 16 = .ok (.iload_n 2, 1) := by decide +kernel
theorem dX10_run_17 : decode cX10_run 17 = .ok (.iload_n 3, 1) := by decide +kernel
theorem dX10_run_18 : decode cX10_run 18 = .ok (.invokevirtual 222, 3) := by decide +kernel
theorem dX10_run_21 : decode cX10_run 21 = .ok (.goto 5, 3) := by decide +kernel
theorem dX10_run_24 : decode cX10_run 24 = .ok (.bipush (-2), 2) := by decide +kernel
theorem dX10_run_26 : decode cX10_run 26 = .ok (.ireturn, 1) := by decide +kernel
theorem dX10_told_0 : decode cX10_told 0 = .ok (.aload_n 0, 1) := by decide +kernel
theorem dX10_told_1 : decode cX10_told 1 = .ok (.iconst 0, 1) := by decide +kernel
theorem dX10_told_2 : decode cX10_told 2 = .ok (.putfield 1, 3) := by decide +kernel
theorem dX10_told_5 : decode cX10_told 5 = .ok (.iload_n 1, 1) := by decide +kernel
theorem dX10_told_6 : decode cX10_told 6 = .ok (.tableswitch 118 0 8 #[50, 55, 60, 65, 70, 75, 80, 85, 90], 50) := by decide +kernel
theorem dX10_told_56 : decode cX10_told 56 = .ok (.aload_n 0, 1) := by decide +kernel
theorem dX10_told_57 : decode cX10_told 57 = .ok (.getfield 56, 3) := by decide +kernel
theorem dX10_told_60 : decode cX10_told 60 = .ok (.ireturn, 1) := by decide +kernel
theorem dX10_told_61 : decode cX10_told 61 = .ok (.aload_n 0, 1) := by decide +kernel
theorem dX10_told_62 : decode cX10_told 62 = .ok (.getfield 112, 3) := by decide +kernel
theorem dX10_told_65 : decode cX10_told 65 = .ok (.ireturn, 1) := by decide +kernel
theorem dX10_told_66 : decode cX10_told 66 = .ok (.aload_n 0, 1) := by decide +kernel
theorem dX10_told_67 : decode cX10_told 67 = .ok (.getfield 115, 3) := by decide +kernel
theorem dX10_told_70 : decode cX10_told 70 = .ok (.ireturn, 1) := by decide +kernel
theorem dX10_told_71 : decode cX10_told 71 = .ok (.aload_n 0, 1) := by decide +kernel
theorem dX10_told_72 : decode cX10_told 72 = .ok (.getfield 168, 3) := by decide +kernel
theorem dX10_told_75 : decode cX10_told 75 = .ok (.ireturn, 1) := by decide +kernel
theorem dX10_told_76 : decode cX10_told 76 = .ok (.aload_n 0, 1) := by decide +kernel
theorem dX10_told_77 : decode cX10_told 77 = .ok (.getfield 134, 3) := by decide +kernel
theorem dX10_told_80 : decode cX10_told 80 = .ok (.ireturn, 1) := by decide +kernel
theorem dX10_told_81 : decode cX10_told 81 = .ok (.aload_n 0, 1) := by decide +kernel
theorem dX10_told_82 : decode cX10_told 82 = .ok (.getfield 137, 3) := by decide +kernel
theorem dX10_told_85 : decode cX10_told 85 = .ok (.ireturn, 1) := by decide +kernel
theorem dX10_told_86 : decode cX10_told 86 = .ok (.aload_n 0, 1) := by decide +kernel
theorem dX10_told_87 : decode cX10_told 87 = .ok (.getfield 177, 3) := by decide +kernel
theorem dX10_told_90 : decode cX10_told 90 = .ok (.ireturn, 1) := by decide +kernel
theorem dX10_told_91 : decode cX10_told 91 = .ok (.aload_n 0, 1) := by decide +kernel
theorem dX10_told_92 : decode cX10_told 92 = .ok (.getfield 183, 3) := by decide +kernel
theorem dX10_told_95 : decode cX10_told 95 = .ok (.ireturn, 1) := by decide +kernel
theorem dX10_told_96 : decode cX10_told 96 = .ok (.aload_n 0, 1) := by decide +kernel
theorem dX10_told_97 : decode cX10_told 97 = .ok (.getfield 38, 3) := by decide +kernel
theorem dX10_told_100 : decode cX10_told 100 = .ok (.iconst 0, 1) := by decide +kernel
theorem dX10_told_101 : decode cX10_told 101 = .ok (.iaload, 1) := by decide +kernel
theorem dX10_told_102 : decode cX10_told 102 = .ok (.aload_n 0, 1) := by decide +kernel
theorem dX10_told_103 : decode cX10_told 103 = .ok (.getfield 38, 3) := by decide +kernel
theorem dX10_told_106 : decode cX10_told 106 = .ok (.iconst 1, 1) := by decide +kernel
theorem dX10_told_107 : decode cX10_told 107 = .ok (.iaload, 1) := by decide +kernel
theorem dX10_told_108 : decode cX10_told 108 = .ok (.iadd, 1) := by decide +kernel
theorem dX10_told_109 : decode cX10_told 109 = .ok (.aload_n 0, 1) := by decide +kernel
theorem dX10_told_110 : decode cX10_told 110 = .ok (.getfield 38, 3) := by decide +kernel
theorem dX10_told_113 : decode cX10_told 113 = .ok (.iconst 2, 1) := by decide +kernel
theorem dX10_told_114 : decode cX10_told 114 = .ok (.iaload, 1) := by decide +kernel
theorem dX10_told_115 : decode cX10_told 115 = .ok (.iadd, 1) := by decide +kernel
theorem dX10_told_116 : decode cX10_told 116 = .ok (.aload_n 0, 1) := by decide +kernel
theorem dX10_told_117 : decode cX10_told 117 = .ok (.getfield 38, 3) := by decide +kernel
theorem dX10_told_120 : decode cX10_told 120 = .ok (.iconst 3, 1) := by decide +kernel
theorem dX10_told_121 : decode cX10_told 121 = .ok (.iaload, 1) := by decide +kernel
theorem dX10_told_122 : decode cX10_told 122 = .ok (.iadd, 1) := by decide +kernel
theorem dX10_told_123 : decode cX10_told 123 = .ok (.ireturn, 1) := by decide +kernel
theorem dX10_told_124 : decode cX10_told 124 = .ok (.bipush (-2), 2) := by decide +kernel
theorem dX10_told_126 : decode cX10_told 126 = .ok (.ireturn, 1) := by decide +kernel
theorem dX10_marks_0 : decode cX10_marks 0 = .ok (.aload_n 0, 1) := by decide +kernel
theorem dX10_marks_1 : decode cX10_marks 1 = .ok (.iconst 0, 1) := by decide +kernel
theorem dX10_marks_2 : decode cX10_marks 2 = .ok (.putfield 1, 3) := by decide +kernel
theorem dX10_marks_5 : decode cX10_marks 5 = .ok (.iload_n 1, 1) := by decide +kernel
theorem dX10_marks_6 : decode cX10_marks 6 = .ok (.iconst 5, 1) := by decide +kernel
theorem dX10_marks_7 : decode cX10_marks 7 = .ok (.invokestatic 86, 3) := by decide +kernel
theorem dX10_marks_10 : decode cX10_marks 10 = .ok (.ifCond .eq 12, 3) := by decide +kernel
theorem dX10_marks_13 : decode cX10_marks 13 = .ok (.aload_n 0, 1) := by decide +kernel
theorem dX10_marks_14 : decode cX10_marks 14 = .ok (.getfield 50, 3) := by decide +kernel
theorem dX10_marks_17 : decode cX10_marks 17 = .ok (.iload_n 1, 1) := by decide +kernel
theorem dX10_marks_18 : decode cX10_marks 18 = .ok (.iaload, 1) := by decide +kernel
theorem dX10_marks_19 : decode cX10_marks 19 = .ok (.goto 5, 3) := by decide +kernel
theorem dX10_marks_22 : decode cX10_marks 22 = .ok (.bipush (-2), 2) := by decide +kernel
theorem dX10_marks_24 : decode cX10_marks 24 = .ok (.ireturn, 1) := by decide +kernel
theorem dX10_began_0 : decode cX10_began 0 = .ok (.aload_n 0, 1) := by decide +kernel
theorem dX10_began_1 : decode cX10_began 1 = .ok (.iconst 0, 1) := by decide +kernel
theorem dX10_began_2 : decode cX10_began 2 = .ok (.putfield 1, 3) := by decide +kernel
theorem dX10_began_5 : decode cX10_began 5 = .ok (.iload_n 1, 1) := by decide +kernel
theorem dX10_began_6 : decode cX10_began 6 = .ok (.ifCond .ge 8, 3) := by decide +kernel
theorem dX10_began_9 : decode cX10_began 9 = .ok (.bipush (-2), 2) := by decide +kernel
theorem dX10_began_11 : decode cX10_began 11 = .ok (.goto 21, 3) := by decide +kernel
theorem dX10_began_14 : decode cX10_began 14 = .ok (.iload_n 1, 1) := by decide +kernel
theorem dX10_began_15 : decode cX10_began 15 = .ok (.aload_n 0, 1) := by decide +kernel
theorem dX10_began_16 : decode cX10_began 16 = .ok (.getfield 146, 3) := by decide +kernel
theorem dX10_began_19 : decode cX10_began 19 = .ok (.if_icmp .ge 12, 3) := by decide +kernel
theorem dX10_began_22 : decode cX10_began 22 = .ok (.aload_n 0, 1) := by decide +kernel
theorem dX10_began_23 : decode cX10_began 23 = .ok (.getfield 53, 3) := by decide +kernel
theorem dX10_began_26 : decode cX10_began 26 = .ok (.iload_n 1, 1) := by decide +kernel
theorem dX10_began_27 : decode cX10_began 27 = .ok (.iaload, 1) := by decide +kernel
theorem dX10_began_28 : decode cX10_began 28 = .ok (.goto 4, 3) := by decide +kernel
theorem dX10_began_31 : decode cX10_began 31 = .ok (.iconst (-1), 1) := by decide +kernel
theorem dX10_began_32 : decode cX10_began 32 = .ok (.ireturn, 1) := by decide +kernel
theorem dX10_variable_0 : decode cX10_variable 0 = .ok (.aload_n 0, 1) := by decide +kernel
theorem dX10_variable_1 : decode cX10_variable 1 = .ok (.iconst 0, 1) := by decide +kernel
theorem dX10_variable_2 : decode cX10_variable 2 = .ok (.putfield 1, 3) := by decide +kernel
theorem dX10_variable_5 : decode cX10_variable 5 = .ok (.iload_n 1, 1) := by decide +kernel
theorem dX10_variable_6 : decode cX10_variable 6 = .ok (.bipush 8, 2) := by decide +kernel
theorem dX10_variable_8 : decode cX10_variable 8 = .ok (.invokestatic 86, 3) := by decide +kernel
theorem dX10_variable_11 : decode cX10_variable 11 = .ok (.ifCond .eq 12, 3) := by decide +kernel
theorem dX10_variable_14 : decode cX10_variable 14 = .ok (.aload_n 0, 1) := by decide +kernel
theorem dX10_variable_15 : decode cX10_variable 15 = .ok (.getfield 32, 3) := by decide +kernel
theorem dX10_variable_18 : decode cX10_variable 18 = .ok (.iload_n 1, 1) := by decide +kernel
theorem dX10_variable_19 : decode cX10_variable 19 = .ok (.iaload, 1) := by decide +kernel
theorem dX10_variable_20 : decode cX10_variable 20 = .ok (.goto 4, 3) := by decide +kernel
theorem dX10_variable_23 : decode cX10_variable 23 = .ok (.iconst 0, 1) := by decide +kernel
theorem dX10_variable_24 : decode cX10_variable 24 = .ok (.ireturn, 1) := by decide +kernel
theorem dX10_size_0 : decode cX10_size 0 = .ok (.aload_n 0, 1) := by decide +kernel
theorem dX10_size_1 : decode cX10_size 1 = .ok (.iconst 0, 1) := by decide +kernel
theorem dX10_size_2 : decode cX10_size 2 = .ok (.putfield 1, 3) := by decide +kernel
theorem dX10_size_5 : decode cX10_size 5 = .ok (.iload_n 1, 1) := by decide +kernel
theorem dX10_size_6 : decode cX10_size 6 = .ok (.iconst 4, 1) := by decide +kernel
theorem dX10_size_7 : decode cX10_size 7 = .ok (.invokestatic 86, 3) := by decide +kernel
theorem dX10_size_10 : decode cX10_size 10 = .ok (.ifCond .ne 8, 3) := by decide +kernel
theorem dX10_size_13 : decode cX10_size 13 = .ok (.bipush (-2), 2) := by decide +kernel
theorem dX10_size_15 : decode cX10_size 15 = .ok (.goto 28, 3) := by decide +kernel
theorem dX10_size_18 : decode cX10_size 18 = .ok (.aload_n 0, 1) := by decide +kernel
theorem dX10_size_19 : decode cX10_size 19 = .ok (.getfield 35, 3) := by decide +kernel
theorem dX10_size_22 : decode cX10_size 22 = .ok (.iload_n 1, 1) := by decide +kernel
theorem dX10_size_23 : decode cX10_size 23 = .ok (.iaload, 1) := by decide +kernel
theorem dX10_size_24 : decode cX10_size 24 = .ok (.iconst (-1), 1) := by decide +kernel
theorem dX10_size_25 : decode cX10_size 25 = .ok (.if_icmp .ne 7, 3) := by decide +kernel
theorem dX10_size_28 : decode cX10_size 28 = .ok (.iconst (-1), 1) := by decide +kernel
theorem dX10_size_29 : decode cX10_size 29 = .ok (.goto 14, 3) := by decide +kernel
theorem dX10_size_32 : decode cX10_size 32 = .ok (.aload_n 0, 1) := by decide +kernel
theorem dX10_size_33 : decode cX10_size 33 = .ok (.getfield 41, 3) := by decide +kernel
theorem dX10_size_36 : decode cX10_size 36 = .ok (.aload_n 0, 1) := by decide +kernel
theorem dX10_size_37 : decode cX10_size 37 = .ok (.getfield 35, 3) := by decide +kernel
theorem dX10_size_40 : decode cX10_size 40 = .ok (.iload_n 1, 1) := by decide +kernel
theorem dX10_size_41 : decode cX10_size 41 = .ok (.iaload, 1) := by decide +kernel
theorem dX10_size_42 : decode cX10_size 42 = .ok (.iaload, 1) := by decide +kernel
theorem dX10_size_43 : decode cX10_size 43 = .ok (.ireturn, 1) := by decide +kernel
theorem dX10_item_0 : decode cX10_item 0 = .ok (.aload_n 0, 1) := by decide +kernel
theorem dX10_item_1 : decode cX10_item 1 = .ok (.iconst 0, 1) := by decide +kernel
theorem dX10_item_2 : decode cX10_item 2 = .ok (.putfield 1, 3) := by decide +kernel
theorem dX10_item_5 : decode cX10_item 5 = .ok (.iload_n 1, 1) := by decide +kernel
theorem dX10_item_6 : decode cX10_item 6 = .ok (.iconst 4, 1) := by decide +kernel
theorem dX10_item_7 : decode cX10_item 7 = .ok (.invokestatic 86, 3) := by decide +kernel
theorem dX10_item_10 : decode cX10_item 10 = .ok (.ifCond .ne 9, 3) := by decide +kernel
theorem dX10_item_13 : decode cX10_item 13 = .ok (.aload_n 0, 1) := by decide +kernel
theorem dX10_item_14 : decode cX10_item 14 = .ok (.iconst 2, 1) := by decide +kernel
theorem dX10_item_15 : decode cX10_item 15 = .ok (.invokevirtual 225, 3) := by decide +kernel
theorem dX10_item_18 : decode cX10_item 18 = .ok (.ireturn, 1) := by decide +kernel
theorem dX10_item_19 : decode cX10_item 19 = .ok (.aload_n 0, 1) := by decide +kernel
theorem dX10_item_20 : decode cX10_item 20 = .ok (.getfield 35, 3) := by decide +kernel
theorem dX10_item_23 : decode cX10_item 23 = .ok (.iload_n 1, 1) := by decide +kernel
theorem dX10_item_24 : decode cX10_item 24 = .ok (.iaload, 1) := by decide +kernel
theorem dX10_item_25 : decode cX10_item 25 = .ok (.iconst (-1), 1) := by decide +kernel
theorem dX10_item_26 : decode cX10_item 26 = .ok (.if_icmp .ne 9, 3) := by decide +kernel
theorem dX10_item_29 : decode cX10_item 29 = .ok (.aload_n 0, 1) := by decide +kernel
theorem dX10_item_30 : decode cX10_item 30 = .ok (.iconst 1, 1) := by decide +kernel
theorem dX10_item_31 : decode cX10_item 31 = .ok (.invokevirtual 225, 3) := by decide +kernel
theorem dX10_item_34 : decode cX10_item 34 = .ok (.ireturn, 1) := by decide +kernel
theorem dX10_item_35 : decode cX10_item 35 = .ok (.iload_n 2, 1) := by decide +kernel
theorem dX10_item_36 : decode cX10_item 36 = .ok (.aload_n 0, 1) := by decide +kernel
theorem dX10_item_37 : decode cX10_item 37 = .ok (.getfield 41, 3) := by decide +kernel
theorem dX10_item_40 : decode cX10_item 40 = .ok (.aload_n 0, 1) := by decide +kernel
theorem dX10_item_41 : decode cX10_item 41 = .ok (.getfield 35, 3) := by decide +kernel
theorem dX10_item_44 : decode cX10_item 44 = .ok (.iload_n 1, 1) := by decide +kernel
theorem dX10_item_45 : decode cX10_item 45 = .ok (.iaload, 1) := by decide +kernel
theorem dX10_item_46 : decode cX10_item 46 = .ok (.iaload, 1) := by decide +kernel
theorem dX10_item_47 : decode cX10_item 47 = .ok (.invokestatic 86, 3) := by decide +kernel
theorem dX10_item_50 : decode cX10_item 50 = .ok (.ifCond .eq 24, 3) := by decide +kernel
theorem dX10_item_53 : decode cX10_item 53 = .ok (.aload_n 0, 1) := by decide +kernel
theorem dX10_item_54 : decode cX10_item 54 = .ok (.getfield 47, 3) := by decide +kernel
theorem dX10_item_57 : decode cX10_item 57 = .ok (.aload_n 0, 1) := by decide +kernel
theorem dX10_item_58 : decode cX10_item 58 = .ok (.getfield 44, 3) := by decide +kernel
theorem dX10_item_61 : decode cX10_item 61 = .ok (.aload_n 0, 1) := by decide +kernel
theorem dX10_item_62 : decode cX10_item 62 = .ok (.getfield 35, 3) := by decide +kernel
theorem dX10_item_65 : decode cX10_item 65 = .ok (.iload_n 1, 1) := by decide +kernel
theorem dX10_item_66 : decode cX10_item 66 = .ok (.iaload, 1) := by decide +kernel
theorem dX10_item_67 : decode cX10_item 67 = .ok (.iaload, 1) := by decide +kernel
theorem dX10_item_68 : decode cX10_item 68 = .ok (.iload_n 2, 1) := by decide +kernel
theorem dX10_item_69 : decode cX10_item 69 = .ok (.iadd, 1) := by decide +kernel
theorem dX10_item_70 : decode cX10_item 70 = .ok (.iaload, 1) := by decide +kernel
theorem dX10_item_71 : decode cX10_item 71 = .ok (.goto 8, 3) := by decide +kernel
theorem dX10_item_74 : decode cX10_item 74 = .ok (.aload_n 0, 1) := by decide +kernel
theorem dX10_item_75 : decode cX10_item 75 = .ok (.iconst 2, 1) := by decide +kernel
theorem dX10_item_76 : decode cX10_item 76 = .ok (.invokevirtual 225, 3) := by decide +kernel
theorem dX10_item_79 : decode cX10_item 79 = .ok (.ireturn, 1) := by decide +kernel
theorem dX10_same_0 : decode cX10_same 0 = .ok (.aload_n 0, 1) := by decide +kernel
theorem dX10_same_1 : decode cX10_same 1 = .ok (.iconst 0, 1) := by decide +kernel
theorem dX10_same_2 : decode cX10_same 2 = .ok (.putfield 1, 3) := by decide +kernel
theorem dX10_same_5 : decode cX10_same 5 = .ok (.aload_n 0, 1) := by decide +kernel
theorem dX10_same_6 : decode cX10_same 6 = .ok (.iload_n 1, 1) := by decide +kernel
theorem dX10_same_7 : decode cX10_same 7 = .ok (.iload_n 3, 1) := by decide +kernel
theorem dX10_same_8 : decode cX10_same 8 = .ok (.invokevirtual 219, 3) := by decide +kernel
