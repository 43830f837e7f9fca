theorem dX13_init_0 : decode cX13_init 0 = .ok (.aload_n 0, 1) := by decide +kernel
theorem dX13_init_1 : decode cX13_init 1 = .ok (.invokespecial 3, 3) := by decide +kernel
theorem dX13_init_4 : decode cX13_init 4 = .ok (.aload_n 0, 1) := by decide +kernel
theorem dX13_init_5 : decode cX13_init 5 = .ok (.bipush 14, 2) := by decide +kernel
theorem dX13_init_7 : decode cX13_init 7 = .ok (.anewarray 9, 3) := by decide +kernel
theorem dX13_init_10 : decode cX13_init 10 = .ok (.dup, 1) := by decide +kernel
theorem dX13_init_11 : decode cX13_init 11 = .ok (.iconst 0, 1) := by decide +kernel
theorem dX13_init_12 : decode cX13_init 12 = .ok (.ldc 11, 2) := by decide +kernel
theorem dX13_init_14 : decode cX13_init 14 = .ok (.aastore, 1) := by decide +kernel
theorem dX13_init_15 : decode cX13_init 15 = .ok (.dup, 1) := by decide +kernel
theorem dX13_init_16 : decode cX13_init 16 = .ok (.iconst 1, 1) := by decide +kernel
theorem dX13_init_17 : decode cX13_init 17 = .ok (.ldc 13, 2) := by decide +kernel
theorem dX13_init_19 : decode cX13_init 19 = .ok (.aastore, 1) := by decide +kernel
theorem dX13_init_20 : decode cX13_init 20 = .ok (.dup, 1) := by decide +kernel
theorem dX13_init_21 : decode cX13_init 21 = .ok (.iconst 2, 1) := by decide +kernel
theorem dX13_init_22 : decode cX13_init 22 = .ok (.ldc 15, 2) := by decide +kernel
theorem dX13_init_24 : decode cX13_init 24 = .ok (.aastore, 1) := by decide +kernel
theorem dX13_init_25 : decode cX13_init 25 = .ok (.dup, 1) := by decide +kernel
theorem dX13_init_26 : decode cX13_init 26 = .ok (.iconst 3, 1) := by decide +kernel
theorem dX13_init_27 : decode cX13_init 27 = .ok (.ldc 17, 2) := by decide +kernel
theorem dX13_init_29 : decode cX13_init 29 = .ok (.aastore, 1) := by decide +kernel
theorem dX13_init_30 : decode cX13_init 30 = .ok (.dup, 1) := by decide +kernel
theorem dX13_init_31 : decode cX13_init 31 = .ok (.iconst 4, 1) := by decide +kernel
theorem dX13_init_32 : decode cX13_init 32 = .ok (.ldc 19, 2) := by decide +kernel
theorem dX13_init_34 : decode cX13_init 34 = .ok (.aastore, 1) := by decide +kernel
theorem dX13_init_35 : decode cX13_init 35 = .ok (.dup, 1) := by decide +kernel
theorem dX13_init_36 : decode cX13_init 36 = .ok (.iconst 5, 1) := by decide +kernel
theorem dX13_init_37 : decode cX13_init 37 = .ok (.ldc 21, 2) := by decide +kernel
theorem dX13_init_39 : decode cX13_init 39 = .ok (.aastore, 1) := by decide +kernel
theorem dX13_init_40 : decode cX13_init 40 = .ok (.dup, 1) := by decide +kernel
theorem dX13_init_41 : decode cX13_init 41 = .ok (.bipush 6, 2) := by decide +kernel
theorem dX13_init_43 : decode cX13_init 43 = .ok (.ldc 23, 2) := by decide +kernel
theorem dX13_init_45 : decode cX13_init 45 = .ok (.aastore, 1) := by decide +kernel
theorem dX13_init_46 : decode cX13_init 46 = .ok (.dup, 1) := by decide +kernel
theorem dX13_init_47 : decode cX13_init 47 = .ok (.bipush 7, 2) := by decide +kernel
theorem dX13_init_49 : decode cX13_init 49 = .ok (.ldc 25, 2) := by decide +kernel
theorem dX13_init_51 : decode cX13_init 51 = .ok (.aastore, 1) := by decide +kernel
theorem dX13_init_52 : decode cX13_init 52 = .ok (.dup, 1) := by decide +kernel
theorem dX13_init_53 : decode cX13_init 53 = .ok (.bipush 8, 2) := by decide +kernel
theorem dX13_init_55 : decode cX13_init 55 = .ok (.ldc 27, 2) := by decide +kernel
theorem dX13_init_57 : decode cX13_init 57 = .ok (.aastore, 1) := by decide +kernel
theorem dX13_init_58 : decode cX13_init 58 = .ok (.dup, 1) := by decide +kernel
theorem dX13_init_59 : decode cX13_init 59 = .ok (.bipush 9, 2) := by decide +kernel
theorem dX13_init_61 : decode cX13_init 61 = .ok (.ldc 29, 2) := by decide +kernel
theorem dX13_init_63 : decode cX13_init 63 = .ok (.aastore, 1) := by decide +kernel
theorem dX13_init_64 : decode cX13_init 64 = .ok (.dup, 1) := by decide +kernel
theorem dX13_init_65 : decode cX13_init 65 = .ok (.bipush 10, 2) := by decide +kernel
theorem dX13_init_67 : decode cX13_init 67 = .ok (.ldc 31, 2) := by decide +kernel
theorem dX13_init_69 : decode cX13_init 69 = .ok (.aastore, 1) := by decide +kernel
theorem dX13_init_70 : decode cX13_init 70 = .ok (.dup, 1) := by decide +kernel
theorem dX13_init_71 : decode cX13_init 71 = .ok (.bipush 11, 2) := by decide +kernel
theorem dX13_init_73 : decode cX13_init 73 = .ok (.ldc 33, 2) := by decide +kernel
theorem dX13_init_75 : decode cX13_init 75 = .ok (.aastore, 1) := by decide +kernel
theorem dX13_init_76 : decode cX13_init 76 = .ok (.dup, 1) := by decide +kernel
theorem dX13_init_77 : decode cX13_init 77 = .ok (.bipush 12, 2) := by decide +kernel
theorem dX13_init_79 : decode cX13_init 79 = .ok (.ldc 35, 2) := by decide +kernel
theorem dX13_init_81 : decode cX13_init 81 = .ok (.aastore, 1) := by decide +kernel
theorem dX13_init_82 : decode cX13_init 82 = .ok (.dup, 1) := by decide +kernel
theorem dX13_init_83 : decode cX13_init 83 = .ok (.bipush 13, 2) := by decide +kernel
theorem dX13_init_85 : decode cX13_init 85 = .ok (.ldc 37, 2) := by decide +kernel
theorem dX13_init_87 : decode cX13_init 87 = .ok (.aastore, 1) := by decide +kernel
theorem dX13_init_88 : decode cX13_init 88 = .ok (.putfield 39, 3) := by decide +kernel
theorem dX13_init_91 : decode cX13_init 91 = .ok (.aload_n 0, 1) := by decide +kernel
theorem dX13_init_92 : decode cX13_init 92 = .ok (.sipush 480, 3) := by decide +kernel
theorem dX13_init_95 : decode cX13_init 95 = .ok (.newarray .int, 2) := by decide +kernel
theorem dX13_init_97 : decode cX13_init 97 = .ok (.putfield 45, 3) := by decide +kernel
theorem dX13_init_100 : decode cX13_init 100 = .ok (.aload_n 0, 1) := by decide +kernel
theorem dX13_init_101 : decode cX13_init 101 = .ok (.sipush 480, 3) := by decide +kernel
theorem dX13_init_104 : decode cX13_init 104 = .ok (.newarray .int, 2) := by decide +kernel
theorem dX13_init_106 : decode cX13_init 106 = .ok (.putfield 49, 3) := by decide +kernel
theorem dX13_init_109 : decode cX13_init 109 = .ok (.aload_n 0, 1) := by decide +kernel
theorem dX13_init_110 : decode cX13_init 110 = .ok (.sipush 480, 3) := by decide +kernel
theorem dX13_init_113 : decode cX13_init 113 = .ok (.newarray .int, 2) := by decide +kernel
theorem dX13_init_115 : decode cX13_init 115 = .ok (.putfield 52, 3) := by decide +kernel
theorem dX13_init_118 : decode cX13_init 118 = .ok (.aload_n 0, 1) := by decide +kernel
theorem dX13_init_119 : decode cX13_init 119 = .ok (.sipush 480, 3) := by decide +kernel
theorem dX13_init_122 : decode cX13_init 122 = .ok (.newarray .int, 2) := by decide +kernel
theorem dX13_init_124 : decode cX13_init 124 = .ok (.putfield 55, 3) := by decide +kernel
theorem dX13_init_127 : decode cX13_init 127 = .ok (.aload_n 0, 1) := by decide +kernel
theorem dX13_init_128 : decode cX13_init 128 = .ok (.sipush 480, 3) := by decide +kernel
theorem dX13_init_131 : decode cX13_init 131 = .ok (.newarray .int, 2) := by decide +kernel
theorem dX13_init_133 : decode cX13_init 133 = .ok (.putfield 58, 3) := by decide +kernel
theorem dX13_init_136 : decode cX13_init 136 = .ok (.aload_n 0, 1) := by decide +kernel
theorem dX13_init_137 : decode cX13_init 137 = .ok (.sipush 480, 3) := by decide +kernel
theorem dX13_init_140 : decode cX13_init 140 = .ok (.newarray .int, 2) := by decide +kernel
theorem dX13_init_142 : decode cX13_init 142 = .ok (.putfield 61, 3) := by decide +kernel
theorem dX13_init_145 : decode cX13_init 145 = .ok (.aload_n 0, 1) := by decide +kernel
theorem dX13_init_146 : decode cX13_init 146 = .ok (.sipush 480, 3) := by decide +kernel
theorem dX13_init_149 : decode cX13_init 149 = .ok (.newarray .int, 2) := by decide +kernel
theorem dX13_init_151 : decode cX13_init 151 = .ok (.putfield 64, 3) := by decide +kernel
theorem dX13_init_154 : decode cX13_init 154 = .ok (.aload_n 0, 1) := by decide +kernel
theorem dX13_init_155 : decode cX13_init 155 = .ok (.sipush 480, 3) := by decide +kernel
theorem dX13_init_158 : decode cX13_init 158 = .ok (.newarray .int, 2) := by decide +kernel
theorem dX13_init_160 : decode cX13_init 160 = .ok (.putfield 67, 3) := by decide +kernel
theorem dX13_init_163 : decode cX13_init 163 = .ok (.aload_n 0, 1) := by decide +kernel
theorem dX13_init_164 : decode cX13_init 164 = .ok (.sipush 1920, 3) := by decide +kernel
theorem dX13_init_167 : decode cX13_init 167 = .ok (.newarray .int, 2) := by decide +kernel
theorem dX13_init_169 : decode cX13_init 169 = .ok (.putfield 70, 3) := by decide +kernel
theorem dX13_init_172 : decode cX13_init 172 = .ok (.aload_n 0, 1) := by decide +kernel
theorem dX13_init_173 : decode cX13_init 173 = .ok (.bipush 8, 2) := by decide +kernel
theorem dX13_init_175 : decode cX13_init 175 = .ok (.newarray .int, 2) := by decide +kernel
theorem dX13_init_177 : decode cX13_init 177 = .ok (.putfield 73, 3) := by decide +kernel
theorem dX13_init_180 : decode cX13_init 180 = .ok (.aload_n 0, 1) := by decide +kernel
theorem dX13_init_181 : decode cX13_init 181 = .ok (.bipush 8, 2) := by decide +kernel
theorem dX13_init_183 : decode cX13_init 183 = .ok (.newarray .int, 2) := by decide +kernel
theorem dX13_init_185 : decode cX13_init 185 = .ok (.putfield 76, 3) := by decide +kernel
theorem dX13_init_188 : decode cX13_init 188 = .ok (.aload_n 0, 1) := by decide +kernel
theorem dX13_init_189 : decode cX13_init 189 = .ok (.iconst 5, 1) := by decide +kernel
theorem dX13_init_190 : decode cX13_init 190 = .ok (.newarray .int, 2) := by decide +kernel
theorem dX13_init_192 : decode cX13_init 192 = .ok (.putfield 79, 3) := by decide +kernel
theorem dX13_init_195 : decode cX13_init 195 = .ok (.aload_n 0, 1) := by decide +kernel
theorem dX13_init_196 : decode cX13_init 196 = .ok (.iconst 3, 1) := by decide +kernel
theorem dX13_init_197 : decode cX13_init 197 = .ok (.newarray .int, 2) := by decide +kernel
theorem dX13_init_199 : decode cX13_init 199 = .ok (.dup, 1) := by decide +kernel
theorem dX13_init_200 : decode cX13_init 200 = .ok (.iconst 0, 1) := by decide +kernel
theorem dX13_init_201 : decode cX13_init 201 = .ok (.bipush (-5), 2) := by decide +kernel
theorem dX13_init_203 : decode cX13_init 203 = .ok (.iastore, 1) := by decide +kernel
theorem dX13_init_204 : decode cX13_init 204 = .ok (.dup, 1) := by decide +kernel
theorem dX13_init_205 : decode cX13_init 205 = .ok (.iconst 1, 1) := by decide +kernel
theorem dX13_init_206 : decode cX13_init 206 = .ok (.bipush (-5), 2) := by decide +kernel
theorem dX13_init_208 : decode cX13_init 208 = .ok (.iastore, 1) := by decide +kernel
theorem dX13_init_209 : decode cX13_init 209 = .ok (.dup, 1) := by decide +kernel
theorem dX13_init_210 : decode cX13_init 210 = .ok (.iconst 2, 1) := by decide +kernel
theorem dX13_init_211 : decode cX13_init 211 = .ok (.bipush (-5), 2) := by decide +kernel
theorem dX13_init_213 : decode cX13_init 213 = .ok (.iastore, 1) := by decide +kernel
theorem dX13_init_214 : decode cX13_init 214 = .ok (.putfield 82, 3) := by decide +kernel
theorem dX13_init_217 : decode cX13_init 217 = .ok (.aload_n 0, 1) := by decide +kernel
theorem dX13_init_218 : decode cX13_init 218 = .ok (.bipush (-5), 2) := by decide +kernel
theorem dX13_init_220 : decode cX13_init 220 = .ok (.putfield 85, 3) := by decide +kernel
theorem dX13_init_223 : decode cX13_init 223 = .ok (.aload_n 0, 1) := by decide +kernel
theorem dX13_init_224 : decode cX13_init 224 = .ok (.bipush 100, 2) := by decide +kernel
theorem dX13_init_226 : decode cX13_init 226 = .ok (.newarray .int, 2) := by decide +kernel
theorem dX13_init_228 : decode cX13_init 228 = .ok (.putfield 89, 3) := by decide +kernel
theorem dX13_init_231 : decode cX13_init 231 = .ok (.aload_n 0, 1) := by decide +kernel
theorem dX13_init_232 : decode cX13_init 232 = .ok (.bipush 28, 2) := by decide +kernel
theorem dX13_init_234 : decode cX13_init 234 = .ok (.newarray .int, 2) := by decide +kernel
theorem dX13_init_236 : decode cX13_init 236 = .ok (.putfield 92, 3) := by decide +kernel
theorem dX13_init_239 : decode cX13_init 239 = .ok (.aload_n 0, 1) := by decide +kernel
theorem dX13_init_240 : decode cX13_init 240 = .ok (.bipush 28, 2) := by decide +kernel
theorem dX13_init_242 : decode cX13_init 242 = .ok (.newarray .int, 2) := by decide +kernel
theorem dX13_init_244 : decode cX13_init 244 = .ok (.putfield 95, 3) := by decide +kernel
theorem dX13_init_247 : decode cX13_init 247 = .ok (.aload_n 0, 1) := by decide +kernel
theorem dX13_init_248 : decode cX13_init 248 = .ok (.sipush 672, 3) := by decide +kernel
theorem dX13_init_251 : decode cX13_init 251 = .ok (.newarray .int, 2) := by decide +kernel
theorem dX13_init_253 : decode cX13_init 253 = .ok (.putfield 98, 3) := by decide +kernel
theorem dX13_init_256 : decode cX13_init 256 = .ok (.aload_n 0, 1) := by decide +kernel
theorem dX13_init_257 : decode cX13_init 257 = .ok (.sipush 168, 3) := by decide +kernel
theorem dX13_init_260 : decode cX13_init 260 = .ok (.newarray .int, 2) := by decide +kernel
theorem dX13_init_262 : decode cX13_init 262 = .ok (.putfield 101, 3) := by decide +kernel
theorem dX13_init_265 : decode cX13_init 265 = .ok (.aload_n 0, 1) := by decide +kernel
theorem dX13_init_266 : decode cX13_init 266 = .ok (.sipush 168, 3) := by decide +kernel
theorem dX13_init_269 : decode cX13_init 269 = .ok (.newarray .boolean, 2) := by decide +kernel
theorem dX13_init_271 : decode cX13_init 271 = .ok (.putfield 104, 3) := by decide +kernel
theorem dX13_init_274 : decode cX13_init 274 = .ok (.aload_n 0, 1) := by decide +kernel
theorem dX13_init_275 : decode cX13_init 275 = .ok (.sipush 168, 3) := by decide +kernel
theorem dX13_init_278 : decode cX13_init 278 = .ok (.newarray .int, 2) := by decide +kernel
theorem dX13_init_280 : decode cX13_init 280 = .ok (.putfield 108, 3) := by decide +kernel
theorem dX13_init_283 : decode cX13_init 283 = .ok (.aload_n 0, 1) := by decide +kernel
theorem dX13_init_284 : decode cX13_init 284 = .ok (.sipush 1680, 3) := by decide +kernel
theorem dX13_init_287 : decode cX13_init 287 = .ok (.newarray .int, 2) := by decide +kernel
theorem dX13_init_289 : decode cX13_init 289 = .ok (.putfield 111, 3) := by decide +kernel
theorem dX13_init_292 : decode cX13_init 292 = .ok (.aload_n 0, 1) := by decide +kernel
theorem dX13_init_293 : decode cX13_init 293 = .ok (.bipush 28, 2) := by decide +kernel
theorem dX13_init_295 : decode cX13_init 295 = .ok (.newarray .int, 2) := by decide +kernel
theorem dX13_init_297 : decode cX13_init 297 = .ok (.putfield 114, 3) := by decide +kernel
theorem dX13_init_300 : decode cX13_init 300 = .ok (.aload_n 0, 1) := by decide +kernel
theorem dX13_init_301 : decode cX13_init 301 = .ok (.bipush 60, 2) := by decide +kernel
theorem dX13_init_303 : decode cX13_init 303 = .ok (.newarray .int, 2) := by decide +kernel
theorem dX13_init_305 : decode cX13_init 305 = .ok (.putfield 117, 3) := by decide +kernel
theorem dX13_init_308 : decode cX13_init 308 = .ok (.aload_n 0, 1) := by decide +kernel
theorem dX13_init_309 : decode cX13_init 309 = .ok (.bipush 60, 2) := by decide +kernel
theorem dX13_init_311 : decode cX13_init 311 = .ok (.newarray .int, 2) := by decide +kernel
theorem dX13_init_313 : decode cX13_init 313 = .ok (.putfield 120, 3) := by decide +kernel
theorem dX13_init_316 : decode cX13_init 316 = .ok (.aload_n 0, 1) := by decide +kernel
theorem dX13_init_317 : decode cX13_init 317 = .ok (.iconst 4, 1) := by decide +kernel
theorem dX13_init_318 : decode cX13_init 318 = .ok (.newarray .int, 2) := by decide +kernel
theorem dX13_init_320 : decode cX13_init 320 = .ok (.dup, 1) := by decide +kernel
theorem dX13_init_321 : decode cX13_init 321 = .ok (.iconst 0, 1) := by decide +kernel
theorem dX13_init_322 : decode cX13_init 322 = .ok (.iconst (-1), 1) := by decide +kernel
theorem dX13_init_323 : decode cX13_init 323 = .ok (.iastore, 1) := by decide +kernel
theorem dX13_init_324 : decode cX13_init 324 = .ok (.dup, 1) := by decide +kernel
theorem dX13_init_325 : decode cX13_init 325 = .ok (.iconst 1, 1) := by decide +kernel
theorem dX13_init_326 : decode cX13_init 326 = .ok (.iconst (-1), 1) := by decide +kernel
theorem dX13_init_327 : decode cX13_init 327 = .ok (.iastore, 1) := by decide +kernel
theorem dX13_init_328 : decode cX13_init 328 = .ok (.dup, 1) := by decide +kernel
theorem dX13_init_329 : decode cX13_init 329 = .ok (.iconst 2, 1) := by decide +kernel
theorem dX13_init_330 : decode cX13_init 330 = .ok (.iconst (-1), 1) := by decide +kernel
theorem dX13_init_331 : decode cX13_init 331 = .ok (.iastore, 1) := by decide +kernel
theorem dX13_init_332 : decode cX13_init 332 = .ok (.dup, 1) := by decide +kernel
theorem dX13_init_333 : decode cX13_init 333 = .ok (.iconst 3, 1) := by decide +kernel
theorem dX13_init_334 : decode cX13_init 334 = .ok (.iconst (-1), 1) := by decide +kernel
theorem dX13_init_335 : decode cX13_init 335 = .ok (.iastore, 1) := by decide +kernel
theorem dX13_init_336 : decode cX13_init 336 = .ok (.putfield 123, 3) := by decide +kernel
theorem dX13_init_339 : decode cX13_init 339 = .ok (.aload_n 0, 1) := by decide +kernel
theorem dX13_init_340 : decode cX13_init 340 = .ok (.iconst 4, 1) := by decide +kernel
theorem dX13_init_341 : decode cX13_init 341 = .ok (.newarray .int, 2) := by decide +kernel
theorem dX13_init_343 : decode cX13_init 343 = .ok (.putfield 126, 3) := by decide +kernel
theorem dX13_init_346 : decode cX13_init 346 = .ok (.aload_n 0, 1) := by decide +kernel
theorem dX13_init_347 : decode cX13_init 347 = .ok (.iconst 4, 1) := by decide +kernel
theorem dX13_init_348 : decode cX13_init 348 = .ok (.newarray .int, 2) := by decide +kernel
theorem dX13_init_350 : decode cX13_init 350 = .ok (.putfield 129, 3) := by decide +kernel
theorem dX13_init_353 : decode cX13_init 353 = .ok (.aload_n 0, 1) := by decide +kernel
theorem dX13_init_354 : decode cX13_init 354 = .ok (.iconst 4, 1) := by decide +kernel
theorem dX13_init_355 : decode cX13_init 355 = .ok (.newarray .boolean, 2) := by decide +kernel
theorem dX13_init_357 : decode cX13_init 357 = .ok (.putfield 132, 3) := by decide +kernel
theorem dX13_init_360 : decode cX13_init 360 = .ok (.aload_n 0, 1) := by decide +kernel
theorem dX13_init_361 : decode cX13_init 361 = .ok (.iconst 4, 1) := by decide +kernel
theorem dX13_init_362 : decode cX13_init 362 = .ok (.newarray .int, 2) := by decide +kernel
theorem dX13_init_364 : decode cX13_init 364 = .ok (.putfield 135, 3) := by decide +kernel
theorem dX13_init_367 : decode cX13_init 367 = .ok (.aload_n 0, 1) := by decide +kernel
theorem dX13_init_368 : decode cX13_init 368 = .ok (.iconst 5, 1) := by decide +kernel
theorem dX13_init_369 : decode cX13_init 369 = .ok (.newarray .int, 2) := by decide +kernel
theorem dX13_init_371 : decode cX13_init 371 = .ok (.putfield 138, 3) := by decide +kernel
theorem dX13_init_374 : decode cX13_init 374 = .ok (.aload_n 0, 1) := by decide +kernel
theorem dX13_init_375 : decode cX13_init 375 = .ok (.bipush 10, 2) := by decide +kernel
theorem dX13_init_377 : decode cX13_init 377 = .ok (.newarray .int, 2) := by decide +kernel
theorem dX13_init_379 : decode cX13_init 379 = .ok (.putfield 141, 3) := by decide +kernel
theorem dX13_init_382 : decode cX13_init 382 = .ok (.aload_n 0, 1) := by decide +kernel
theorem dX13_init_383 : decode cX13_init 383 = .ok (.bipush 60, 2) := by decide +kernel
theorem dX13_init_385 : decode cX13_init 385 = .ok (.newarray .int, 2) := by decide +kernel
theorem dX13_init_387 : decode cX13_init 387 = .ok (.putfield 144, 3) := by decide +kernel
theorem dX13_init_390 : decode cX13_init 390 = .ok (.aload_n 0, 1) := by decide +kernel
theorem dX13_init_391 : decode cX13_init 391 = .ok (.bipush 20, 2) := by decide +kernel
theorem dX13_init_393 : decode cX13_init 393 = .ok (.newarray .int, 2) := by decide +kernel
theorem dX13_init_395 : decode cX13_init 395 = .ok (.putfield 147, 3) := by decide +kernel
theorem dX13_init_398 : decode cX13_init 398 = .ok (.aload_n 0, 1) := by decide +kernel
theorem dX13_init_399 : decode cX13_init 399 = .ok (.bipush 16, 2) := by decide +kernel
theorem dX13_init_401 : decode cX13_init 401 = .ok (.newarray .int, 2) := by decide +kernel
theorem dX13_init_403 : decode cX13_init 403 = .ok (.putfield 150, 3) := by decide +kernel
theorem dX13_init_406 : decode cX13_init 406 = .ok (.aload_n 0, 1) := by decide +kernel
theorem dX13_init_407 : decode cX13_init 407 = .ok (.iconst 5, 1) := by decide +kernel
theorem dX13_init_408 : decode cX13_init 408 = .ok (.newarray .int, 2) := by decide +kernel
theorem dX13_init_410 : decode cX13_init 410 = .ok (.putfield 153, 3) := by decide +kernel
theorem dX13_init_413 : decode cX13_init 413 = .ok (.aload_n 0, 1) := by decide +kernel
theorem dX13_init_414 : decode cX13_init 414 = .ok (.iconst 3, 1) := by decide +kernel
theorem dX13_init_415 : decode cX13_init 415 = .ok (.newarray .int, 2) := by decide +kernel
theorem dX13_init_417 : decode cX13_init 417 = .ok (.putfield 156, 3) := by decide +kernel
theorem dX13_init_420 : decode cX13_init 420 = .ok (.aload_n 0, 1) := by decide +kernel
theorem dX13_init_421 : decode cX13_init 421 = .ok (.sipush 160, 3) := by decide +kernel
theorem dX13_init_424 : decode cX13_init 424 = .ok (.newarray .int, 2) := by decide +kernel
theorem dX13_init_426 : decode cX13_init 426 = .ok (.putfield 159, 3) := by decide +kernel
theorem dX13_init_429 : decode cX13_init 429 = .ok (.aload_n 0, 1) := by decide +kernel
theorem dX13_init_430 : decode cX13_init 430 = .ok (.bipush 7, 2) := by decide +kernel
theorem dX13_init_432 : decode cX13_init 432 = .ok (.newarray .int, 2) := by decide +kernel
theorem dX13_init_434 : decode cX13_init 434 = .ok (.putfield 162, 3) := by decide +kernel
theorem dX13_init_437 : decode cX13_init 437 = .ok (.aload_n 0, 1) := by decide +kernel
theorem dX13_init_438 : decode cX13_init 438 = .ok (.bipush 6, 2) := by decide +kernel
theorem dX13_init_440 : decode cX13_init 440 = .ok (.newarray .int, 2) := by decide +kernel
theorem dX13_init_442 : decode cX13_init 442 = .ok (.dup, 1) := by decide +kernel
theorem dX13_init_443 : decode cX13_init 443 = .ok (.iconst 0, 1) := by decide +kernel
theorem dX13_init_444 : decode cX13_init 444 = .ok (.iconst (-1), 1) := by decide +kernel
theorem dX13_init_445 : decode cX13_init 445 = .ok (.iastore, 1) := by decide +kernel
theorem dX13_init_446 : decode cX13_init 446 = .ok (.dup, 1) := by decide +kernel
theorem dX13_init_447 : decode cX13_init 447 = .ok (.iconst 1, 1) := by decide +kernel
theorem dX13_init_448 : decode cX13_init 448 = .ok (.iconst (-1), 1) := by decide +kernel
theorem dX13_init_449 : decode cX13_init 449 = .ok (.iastore, 1) := by decide +kernel
theorem dX13_init_450 : decode cX13_init 450 = .ok (.dup, 1) := by decide +kernel
theorem dX13_init_451 : decode cX13_init 451 = .ok (.iconst 2, 1) := by decide +kernel
theorem dX13_init_452 : decode cX13_init 452 = .ok (.iconst (-1), 1) := by decide +kernel
theorem dX13_init_453 : decode cX13_init 453 = .ok (.iastore, 1) := by decide +kernel
theorem dX13_init_454 : decode cX13_init 454 = .ok (.dup, 1) := by decide +kernel
theorem dX13_init_455 : decode cX13_init 455 = .ok (.iconst 3, 1) := by decide +kernel
theorem dX13_init_456 : decode cX13_init 456 = .ok (.iconst (-1), 1) := by decide +kernel
theorem dX13_init_457 : decode cX13_init 457 = .ok (.iastore, 1) := by decide +kernel
theorem dX13_init_458 : decode cX13_init 458 = .ok (.dup, 1) := by decide +kernel
theorem dX13_init_459 : decode cX13_init 459 = .ok (.iconst 4, 1) := by decide +kernel
theorem dX13_init_460 : decode cX13_init 460 = .ok (.iconst (-1), 1) := by decide +kernel
theorem dX13_init_461 : decode cX13_init 461 = .ok (.iastore, 1) := by decide +kernel
theorem dX13_init_462 : decode cX13_init 462 = .ok (.dup, 1) := by decide +kernel
theorem dX13_init_463 : decode cX13_init 463 = .ok (.iconst 5, 1) := by decide +kernel
theorem dX13_init_464 : decode cX13_init 464 = .ok (.iconst (-1), 1) := by decide +kernel
theorem dX13_init_465 : decode cX13_init 465 = .ok (.iastore, 1) := by decide +kernel
theorem dX13_init_466 : decode cX13_init 466 = .ok (.putfield 165, 3) := by decide +kernel
theorem dX13_init_469 : decode cX13_init 469 = .ok (.aload_n 0, 1) := by decide +kernel
theorem dX13_init_470 : decode cX13_init 470 = .ok (.bipush 6, 2) := by decide +kernel
theorem dX13_init_472 : decode cX13_init 472 = .ok (.newarray .int, 2) := by decide +kernel
theorem dX13_init_474 : decode cX13_init 474 = .ok (.putfield 168, 3) := by decide +kernel
theorem dX13_init_477 : decode cX13_init 477 = .ok (.aload_n 0, 1) := by decide +kernel
theorem dX13_init_478 : decode cX13_init 478 = .ok (.sipush 360, 3) := by decide +kernel
theorem dX13_init_481 : decode cX13_init 481 = .ok (.newarray .long, 2) := by decide +kernel
theorem dX13_init_483 : decode cX13_init 483 = .ok (.putfield 171, 3) := by decide +kernel
theorem dX13_init_486 : decode cX13_init 486 = .ok (.return_, 1) := by decide +kernel
theorem dX13_in_0 : decode cX13_in 0 = .ok (.lload_n 0, 1) := by decide +kernel
theorem dX13_in_1 : decode cX13_in 1 = .ok (.lload_n 2, 1) := by decide +kernel
theorem dX13_in_2 : decode cX13_in 2 = .ok (.lcmp, 1) := by decide +kernel
theorem dX13_in_3 : decode cX13_in 3 = .ok (.ifCond .lt 14, 3) := by decide +kernel
theorem dX13_in_6 : decode cX13_in 6 = .ok (.lload_n 0, 1) := by decide +kernel
theorem dX13_in_7 : decode cX13_in 7 = .ok (.lload 4, 2) := by decide +kernel
theorem dX13_in_9 : decode cX13_in 9 = .ok (.lcmp, 1) := by decide +kernel
theorem dX13_in_10 : decode cX13_in 10 = .ok (.ifCond .gt 7, 3) := by decide +kernel
theorem dX13_in_13 : decode cX13_in 13 = .ok (.iconst 1, 1) := by decide +kernel
theorem dX13_in_14 : decode cX13_in 14 = .ok (.goto 4, 3) := by decide +kernel
theorem dX13_in_17 : decode cX13_in 17 = .ok (.iconst 0, 1) := by decide +kernel
theorem dX13_in_18 : decode cX13_in 18 = .ok (.ireturn, 1) := by decide +kernel
theorem dX13_feed_0 : decode cX13_feed 0 = .ok (.iload_n 1, 1) := by decide +kernel
theorem dX13_feed_1 : decode cX13_feed 1 = .ok (.i2l, 1) := by decide +kernel
theorem dX13_feed_2 : decode cX13_feed 2 = .ok (.lconst 0, 1) := by decide +kernel
theorem dX13_feed_3 : decode cX13_feed 3 = .ok (.ldc2_w 175, 3) := by decide +kernel
theorem dX13_feed_6 : decode cX13_feed 6 = .ok (.invokestatic 177, 3) := by decide +kernel
theorem dX13_feed_9 : decode cX13_feed 9 = .ok (.ifCond .ne 6, 3) := by decide +kernel
theorem dX13_feed_12 : decode cX13_feed 12 = .ok (.bipush (-2), 2) := by decide +kernel
theorem dX13_feed_14 : decode cX13_feed 14 = .ok (.ireturn, 1) := by decide +kernel
theorem dX13_feed_15 : decode cX13_feed 15 = .ok (.aload_n 0, 1) := by decide +kernel
theorem dX13_feed_16 : decode cX13_feed 16 = .ok (.getfield 181, 3) := by decide +kernel
theorem dX13_feed_19 : decode cX13_feed 19 = .ok (.bipush 100, 2) := by decide +kernel
theorem dX13_feed_21 : decode cX13_feed 21 = .ok (.if_icmp .ne 6, 3) := by decide +kernel
theorem dX13_feed_24 : decode cX13_feed 24 = .ok (.bipush (-4), 2) := by decide +kernel
theorem dX13_feed_26 : decode cX13_feed 26 = .ok (.ireturn, 1) := by decide +kernel
theorem dX13_feed_27 : decode cX13_feed 27 = .ok (.aload_n 0, 1) := by decide +kernel
theorem dX13_feed_28 : decode cX13_feed 28 = .ok (.getfield 89, 3) := by decide +kernel
theorem dX13_feed_31 : decode cX13_feed 31 = .ok (.aload_n 0, 1) := by decide +kernel
theorem dX13_feed_32 : decode cX13_feed 32 = .ok (.getfield 181, 3) := by decide +kernel
theorem dX13_feed_35 : decode cX13_feed 35 = .ok (.iload_n 1, 1) := by decide +kernel
theorem dX13_feed_36 : decode cX13_feed 36 = .ok (.iastore, 1) := by decide +kernel
theorem dX13_feed_37 : decode cX13_feed 37 = .ok (.aload_n 0, 1) := by decide +kernel
theorem dX13_feed_38 : decode cX13_feed 38 = .ok (.dup, 1) := by decide +kernel
theorem dX13_feed_39 : decode cX13_feed 39 = .ok (.getfield 181, 3) := by decide +kernel
theorem dX13_feed_42 : decode cX13_feed 42 = .ok (.iconst 1, 1) := by decide +kernel
theorem dX13_feed_43 : decode cX13_feed 43 = .ok (.iadd, 1) := by decide +kernel
theorem dX13_feed_44 : decode cX13_feed 44 = .ok (.putfield 181, 3) := by decide +kernel
theorem dX13_feed_47 : decode cX13_feed 47 = .ok (.aload_n 0, 1) := by decide +kernel
theorem dX13_feed_48 : decode cX13_feed 48 = .ok (.getfield 181, 3) := by decide +kernel
theorem dX13_feed_51 : decode cX13_feed 51 = .ok (.ireturn, 1) := by decide +kernel
theorem dX13_byteAt_0 : decode cX13_byteAt 0 = .ok (.iload_n 1, 1) := by decide +kernel
theorem dX13_byteAt_1 : decode cX13_byteAt 1 = .ok (.aload_n 0, 1) := by decide +kernel
theorem dX13_byteAt_2 : decode cX13_byteAt 2 = .ok (.getfield 181, 3) := by decide +kernel
theorem dX13_byteAt_5 : decode cX13_byteAt 5 = .ok (.if_icmp .ge 12, 3) := by decide +kernel
theorem dX13_byteAt_8 : decode cX13_byteAt 8 = .ok (.aload_n 0, 1) := by decide +kernel
theorem dX13_byteAt_9 : decode cX13_byteAt 9 = .ok (.getfield 89, 3) := by decide +kernel
theorem dX13_byteAt_12 : decode cX13_byteAt 12 = .ok (.iload_n 1, 1) := by decide +kernel
theorem dX13_byteAt_13 : decode cX13_byteAt 13 = .ok (.iaload, 1) := by decide +kernel
theorem dX13_byteAt_14 : decode cX13_byteAt 14 = .ok (.goto 4, 3) := by decide +kernel
theorem dX13_byteAt_17 : decode cX13_byteAt 17 = .ok (.iconst (-1), 1) := by decide +kernel
theorem dX13_byteAt_18 : decode cX13_byteAt 18 = .ok (.ireturn, 1) := by decide +kernel
theorem dX13_stops_0 : decode cX13_stops 0 = .ok (.aload_n 0, 1) := by decide +kernel
theorem dX13_stops_1 : decode cX13_stops 1 = .ok (.iload_n 1, 1) := by decide +kernel
theorem dX13_stops_2 : decode cX13_stops 2 = .ok (.putfield 184, 3) := by decide +kernel
theorem dX13_stops_5 : decode cX13_stops 5 = .ok (.iconst 0, 1) := by decide +kernel
theorem dX13_stops_6 : decode cX13_stops 6 = .ok (.ireturn, 1) := by decide +kernel
theorem dX13_listRead_0 : decode cX13_listRead 0 = .ok (.aload_n 0, 1) := by decide +kernel
theorem dX13_listRead_1 : decode cX13_listRead 1 = .ok (.aload_n 0, 1) := by decide +kernel
theorem dX13_listRead_2 : decode cX13_listRead 2 = .ok (.getfield 187, 3) := by decide +kernel
theorem dX13_listRead_5 : decode cX13_listRead 5 = .ok (.iload_n 1, 1) := by decide +kernel
theorem dX13_listRead_6 : decode cX13_listRead 6 = .ok (.invokestatic 190, 3) := by decide +kernel
theorem dX13_listRead_9 : decode cX13_listRead 9 = .ok (.putfield 187, 3) := by decide +kernel
theorem dX13_listRead_12 : decode cX13_listRead 12 = .ok (.bipush 60, 2) := by decide +kernel
theorem dX13_listRead_14 : decode cX13_listRead 14 = .ok (.aload_n 0, 1) := by decide +kernel
theorem dX13_listRead_15 : decode cX13_listRead 15 = .ok (.getfield 196, 3) := by decide +kernel
theorem dX13_listRead_18 : decode cX13_listRead 18 = .ok (.imul, 1) := by decide +kernel
theorem dX13_listRead_19 : decode cX13_listRead 19 = .ok (.aload_n 0, 1) := by decide +kernel
theorem dX13_listRead_20 : decode cX13_listRead 20 = .ok (.getfield 199, 3) := by decide +kernel
theorem dX13_listRead_23 : decode cX13_listRead 23 = .ok (.iadd, 1) := by decide +kernel
theorem dX13_listRead_24 : decode cX13_listRead 24 = .ok (.istore_n 2, 1) := by decide +kernel
theorem dX13_listRead_25 : decode cX13_listRead 25 = .ok (.aload_n 0, 1) := by decide +kernel
theorem dX13_listRead_26 : decode cX13_listRead 26 = .ok (.dup, 1) := by decide +kernel
theorem dX13_listRead_27 : decode cX13_listRead 27 = .ok (.getfield 199, 3) := by decide +kernel
theorem dX13_listRead_30 : decode cX13_listRead 30 = .ok (.iconst 1, 1) := by decide +kernel
theorem dX13_listRead_31 : decode cX13_listRead 31 = .ok (.iadd, 1) := by decide +kernel
theorem dX13_listRead_32 : decode cX13_listRead 32 = .ok (.putfield 199, 3) := by decide +kernel
theorem dX13_listRead_35 : decode cX13_listRead 35 = .ok (.iconst (-1), 1) := by decide +kernel
theorem dX13_listRead_36 : decode cX13_listRead 36 = .ok (.istore_n 3, 1) := by decide +kernel
theorem dX13_listRead_37 : decode cX13_listRead 37 = .ok (.bipush 59, 2) := by decide +kernel
theorem dX13_listRead_39 : decode cX13_listRead 39 = .ok (.istore 4, 2) := by decide +kernel
theorem dX13_listRead_41 : decode cX13_listRead 41 = .ok (.aload_n 0, 1) := by decide +kernel
theorem dX13_listRead_42 : decode cX13_listRead 42 = .ok (.iload_n 1, 1) := by decide +kernel
theorem dX13_listRead_43 : decode cX13_listRead 43 = .ok (.invokevirtual 202, 3) := by decide +kernel
theorem dX13_listRead_46 : decode cX13_listRead 46 = .ok (.istore 5, 2) := by decide +kernel
theorem dX13_listRead_48 : decode cX13_listRead 48 = .ok (.iload 5, 2) := by decide +kernel
theorem dX13_listRead_50 : decode cX13_listRead 50 = .ok (.ifCond .ge 5, 3) := by decide +kernel
theorem dX13_listRead_53 : decode cX13_listRead 53 = .ok (.iconst (-1), 1) := by decide +kernel
theorem dX13_listRead_54 : decode cX13_listRead 54 = .ok (.ireturn, 1) := by decide +kernel
theorem dX13_listRead_55 : decode cX13_listRead 55 = .ok (.aload_n 0, 1) := by decide +kernel
theorem dX13_listRead_56 : decode cX13_listRead 56 = .ok (.getfield 52, 3) := by decide +kernel
theorem dX13_listRead_59 : decode cX13_listRead 59 = .ok (.iload 5, 2) := by decide +kernel
theorem dX13_listRead_61 : decode cX13_listRead 61 = .ok (.iload 4, 2) := by decide +kernel
theorem dX13_listRead_63 : decode cX13_listRead 63 = .ok (.iastore, 1) := by decide +kernel
theorem dX13_listRead_64 : decode cX13_listRead 64 = .ok (.aload_n 0, 1) := by decide +kernel
theorem dX13_listRead_65 : decode cX13_listRead 65 = .ok (.getfield 49, 3) := by decide +kernel
theorem dX13_listRead_68 : decode cX13_listRead 68 = .ok (.iload 5, 2) := by decide +kernel
theorem dX13_listRead_70 : decode cX13_listRead 70 = .ok (.iconst (-1), 1) := by decide +kernel
theorem dX13_listRead_71 : decode cX13_listRead 71 = .ok (.iastore, 1) := by decide +kernel
theorem dX13_listRead_72 : decode cX13_listRead 72 = .ok (.iload_n 3, 1) := by decide +kernel
theorem dX13_listRead_73 : decode cX13_listRead 73 = .ok (.ifCond .ge 14, 3) := by decide +kernel
theorem dX13_listRead_76 : decode cX13_listRead 76 = .ok (.aload_n 0, 1) := by decide +kernel
theorem dX13_listRead_77 : decode cX13_listRead 77 = .ok (.getfield 45, 3) := by decide +kernel
theorem dX13_listRead_80 : decode cX13_listRead 80 = .ok (.iload_n 2, 1) := by decide +kernel
theorem dX13_listRead_81 : decode cX13_listRead 81 = .ok (.iload 5, 2) := by decide +kernel
theorem dX13_listRead_83 : decode cX13_listRead 83 = .ok (.iastore, 1) := by decide +kernel
theorem dX13_listRead_84 : decode cX13_listRead 84 = .ok (.goto 11, 3) := by decide +kernel
theorem dX13_listRead_87 : decode cX13_listRead 87 = .ok (.aload_n 0, 1) := by decide +kernel
theorem dX13_listRead_88 : decode cX13_listRead 88 = .ok (.getfield 49, 3) := by decide +kernel
theorem dX13_listRead_91 : decode cX13_listRead 91 = .ok (.iload_n 3, 1) := by decide +kernel
theorem dX13_listRead_92 : decode cX13_listRead 92 = .ok (.iload 5, 2) := by decide +kernel
theorem dX13_listRead_94 : decode cX13_listRead 94 = .ok (.iastore, 1) := by decide +kernel
theorem dX13_listRead_95 : decode cX13_listRead 95 = .ok (.iload 5, 2) := by decide +kernel
theorem dX13_listRead_97 : decode cX13_listRead 97 = .ok (.istore_n 3, 1) := by decide +kernel
theorem dX13_listRead_98 : decode cX13_listRead 98 = .ok (.aload_n 0, 1) := by decide +kernel
theorem dX13_listRead_99 : decode cX13_listRead 99 = .ok (.aload_n 0, 1) := by decide +kernel
theorem dX13_listRead_100 : decode cX13_listRead 100 = .ok (.getfield 206, 3) := by decide +kernel
theorem dX13_listRead_103 : decode cX13_listRead 103 = .ok (.invokevirtual 209, 3) := by decide +kernel
theorem dX13_listRead_106 : decode cX13_listRead 106 = .ok (.istore 4, 2) := by decide +kernel
theorem dX13_listRead_108 : decode cX13_listRead 108 = .ok (.iload 4, 2) := by decide +kernel
theorem dX13_listRead_110 : decode cX13_listRead 110 = .ok (.bipush 59, 2) := by decide +kernel
theorem dX13_listRead_112 : decode cX13_listRead 112 = .ok (.if_icmp .eq 19, 3) := by decide +kernel
theorem dX13_listRead_115 : decode cX13_listRead 115 = .ok (.iload 4, 2) := by decide +kernel
theorem dX13_listRead_117 : decode cX13_listRead 117 = .ok (.bipush 38, 2) := by decide +kernel
theorem dX13_listRead_119 : decode cX13_listRead 119 = .ok (.if_icmp .eq 12, 3) := by decide +kernel
theorem dX13_listRead_122 : decode cX13_listRead 122 = .ok (.iload 4, 2) := by decide +kernel
theorem dX13_listRead_124 : decode cX13_listRead 124 = .ok (.bipush 47, 2) := by decide +kernel
theorem dX13_listRead_126 : decode cX13_listRead 126 = .ok (.if_icmp .eq 5, 3) := by decide +kernel
theorem dX13_listRead_129 : decode cX13_listRead 129 = .ok (.iload_n 2, 1) := by decide +kernel
theorem dX13_listRead_130 : decode cX13_listRead 130 = .ok (.ireturn, 1) := by decide +kernel
theorem dX13_listRead_131 : decode cX13_listRead 131 = .ok (.aload_n 0, 1) := by decide +kernel
theorem dX13_listRead_132 : decode cX13_listRead 132 = .ok (.dup, 1) := by decide +kernel
theorem dX13_listRead_133 : decode cX13_listRead 133 = .ok (.getfield 206, 3) := by decide +kernel
theorem dX13_listRead_136 : decode cX13_listRead 136 = .ok (.iconst 1, 1) := by decide +kernel
theorem dX13_listRead_137 : decode cX13_listRead 137 = .ok (.iadd, 1) := by decide +kernel
theorem dX13_listRead_138 : decode cX13_listRead 138 = .ok (.putfield 206, 3) := by decide +kernel
theorem dX13_listRead_141 : decode cX13_listRead 141 = .ok (.goto (-100), 3) := by decide +kernel
theorem dX13_pipeRead_0 : decode cX13_pipeRead 0 = .ok (.iconst 0, 1) := by decide +kernel
theorem dX13_pipeRead_1 : decode cX13_pipeRead 1 = .ok (.istore_n 2, 1) := by decide +kernel
theorem dX13_pipeRead_2 : decode cX13_pipeRead 2 = .ok (.iconst (-1), 1) := by decide +kernel
theorem dX13_pipeRead_3 : decode cX13_pipeRead 3 = .ok (.istore_n 3, 1) := by decide +kernel
theorem dX13_pipeRead_4 : decode cX13_pipeRead 4 = .ok (.aload_n 0, 1) := by decide +kernel
theorem dX13_pipeRead_5 : decode cX13_pipeRead 5 = .ok (.iload_n 2, 1) := by decide +kernel
theorem dX13_pipeRead_6 : decode cX13_pipeRead 6 = .ok (.ifCond .ne 7, 3) := by decide +kernel
theorem dX13_pipeRead_9 : decode cX13_pipeRead 9 = .ok (.iconst 1, 1) := by decide +kernel
theorem dX13_pipeRead_10 : decode cX13_pipeRead 10 = .ok (.goto 4, 3) := by decide +kernel
theorem dX13_pipeRead_13 : decode cX13_pipeRead 13 = .ok (.iconst 0, 1) := by decide +kernel
theorem dX13_pipeRead_14 : decode cX13_pipeRead 14 = .ok (.iload_n 1, 1) := by decide +kernel
theorem dX13_pipeRead_15 : decode cX13_pipeRead 15 = .ok (.invokevirtual 212, 3) := by decide +kernel
theorem dX13_pipeRead_18 : decode cX13_pipeRead 18 = .ok (.istore 4, 2) := by decide +kernel
theorem dX13_pipeRead_20 : decode cX13_pipeRead 20 = .ok (.iload 4, 2) := by decide +kernel
theorem dX13_pipeRead_22 : decode cX13_pipeRead 22 = .ok (.ifCond .ge 5, 3) := by decide +kernel
theorem dX13_pipeRead_25 : decode cX13_pipeRead 25 = .ok (.iconst (-1), 1) := by decide +kernel
theorem dX13_pipeRead_26 : decode cX13_pipeRead 26 = .ok (.ireturn, 1) := by decide +kernel
theorem dX13_pipeRead_27 : decode cX13_pipeRead 27 = .ok (.iload_n 2, 1) := by decide +kernel
theorem dX13_pipeRead_28 : decode cX13_pipeRead 28 = .ok (.ifCond .ne 8, 3) := by decide +kernel
theorem dX13_pipeRead_31 : decode cX13_pipeRead 31 = .ok (.iload 4, 2) := by decide +kernel
theorem dX13_pipeRead_33 : decode cX13_pipeRead 33 = .ok (.goto 4, 3) := by decide +kernel
theorem dX13_pipeRead_36 : decode cX13_pipeRead 36 = .ok (.iload_n 3, 1) := by decide +kernel
theorem dX13_pipeRead_37 : decode cX13_pipeRead 37 = .ok (.istore_n 3, 1) := by decide +kernel
theorem dX13_pipeRead_38 : decode cX13_pipeRead 38 = .ok (.iinc 2 1, 3) := by decide +kernel
theorem dX13_pipeRead_41 : decode cX13_pipeRead 41 = .ok (.aload_n 0, 1) := by decide +kernel
theorem dX13_pipeRead_42 : decode cX13_pipeRead 42 = .ok (.aload_n 0, 1) := by decide +kernel
theorem dX13_pipeRead_43 : decode cX13_pipeRead 43 = .ok (.getfield 206, 3) := by decide +kernel
theorem dX13_pipeRead_46 : decode cX13_pipeRead 46 = .ok (.invokevirtual 209, 3) := by decide +kernel
theorem dX13_pipeRead_49 : decode cX13_pipeRead 49 = .ok (.bipush 124, 2) := by decide +kernel
theorem dX13_pipeRead_51 : decode cX13_pipeRead 51 = .ok (.if_icmp .eq 6, 3) := by decide +kernel
theorem dX13_pipeRead_54 : decode cX13_pipeRead 54 = .ok (.goto 33, 3) := by decide +kernel
theorem dX13_pipeRead_57 : decode cX13_pipeRead 57 = .ok (.iload_n 2, 1) := by decide +kernel
theorem dX13_pipeRead_58 : decode cX13_pipeRead 58 = .ok (.bipush 6, 2) := by decide +kernel
theorem dX13_pipeRead_60 : decode cX13_pipeRead 60 = .ok (.if_icmp .ne 14, 3) := by decide +kernel
theorem dX13_pipeRead_63 : decode cX13_pipeRead 63 = .ok (.aload_n 0, 1) := by decide +kernel
theorem dX13_pipeRead_64 : decode cX13_pipeRead 64 = .ok (.aload_n 0, 1) := by decide +kernel
theorem dX13_pipeRead_65 : decode cX13_pipeRead 65 = .ok (.getfield 206, 3) := by decide +kernel
theorem dX13_pipeRead_68 : decode cX13_pipeRead 68 = .ok (.invokevirtual 216, 3) := by decide +kernel
theorem dX13_pipeRead_71 : decode cX13_pipeRead 71 = .ok (.pop, 1) := by decide +kernel
theorem dX13_pipeRead_72 : decode cX13_pipeRead 72 = .ok (.iconst (-1), 1) := by decide +kernel
theorem dX13_pipeRead_73 : decode cX13_pipeRead 73 = .ok (.ireturn, 1) := by decide +kernel
theorem dX13_pipeRead_74 : decode cX13_pipeRead 74 = .ok (.aload_n 0, 1) := by decide +kernel
theorem dX13_pipeRead_75 : decode cX13_pipeRead 75 = .ok (.dup, 1) := by decide +kernel
theorem dX13_pipeRead_76 : decode cX13_pipeRead 76 = .ok (.getfield 206, 3) := by decide +kernel
theorem dX13_pipeRead_79 : decode cX13_pipeRead 79 = .ok (.iconst 1, 1) := by decide +kernel
theorem dX13_pipeRead_80 : decode cX13_pipeRead 80 = .ok (.iadd, 1) := by decide +kernel
theorem dX13_pipeRead_81 : decode cX13_pipeRead 81 = .ok (.putfield 206, 3) := by decide +kernel
theorem dX13_pipeRead_84 : decode cX13_pipeRead 84 = .ok (.goto (-80), 3) := by decide +kernel
theorem dX13_pipeRead_87 : decode cX13_pipeRead 87 = .ok (.bipush 60, 2) := by decide +kernel
theorem dX13_pipeRead_89 : decode cX13_pipeRead 89 = .ok (.aload_n 0, 1) := by decide +kernel
theorem dX13_pipeRead_90 : decode cX13_pipeRead 90 = .ok (.getfield 196, 3) := by decide +kernel
theorem dX13_pipeRead_93 : decode cX13_pipeRead 93 = .ok (.imul, 1) := by decide +kernel
theorem dX13_pipeRead_94 : decode cX13_pipeRead 94 = .ok (.aload_n 0, 1) := by decide +kernel
theorem dX13_pipeRead_95 : decode cX13_pipeRead 95 = .ok (.getfield 220, 3) := by decide +kernel
theorem dX13_pipeRead_98 : decode cX13_pipeRead 98 = .ok (.iadd, 1) := by decide +kernel
theorem dX13_pipeRead_99 : decode cX13_pipeRead 99 = .ok (.istore 4, 2) := by decide +kernel
theorem dX13_pipeRead_101 : decode cX13_pipeRead 101 = .ok (.aload_n 0, 1) := by decide +kernel
theorem dX13_pipeRead_102 : decode cX13_pipeRead 102 = .ok (.dup, 1) := by decide +kernel
theorem dX13_pipeRead_103 : decode cX13_pipeRead 103 = .ok (.getfield 220, 3) := by decide +kernel
theorem dX13_pipeRead_106 : decode cX13_pipeRead 106 = .ok (.iconst 1, 1) := by decide +kernel
theorem dX13_pipeRead_107 : decode cX13_pipeRead 107 = .ok (.iadd, 1) := by decide +kernel
theorem dX13_pipeRead_108 : decode cX13_pipeRead 108 = .ok (.putfield 220, 3) := by decide +kernel
theorem dX13_pipeRead_111 : decode cX13_pipeRead 111 = .ok (.aload_n 0, 1) := by decide +kernel
theorem dX13_pipeRead_112 : decode cX13_pipeRead 112 = .ok (.getfield 55, 3) := by decide +kernel
theorem dX13_pipeRead_115 : decode cX13_pipeRead 115 = .ok (.iload 4, 2) := by decide +kernel
theorem dX13_pipeRead_117 : decode cX13_pipeRead 117 = .ok (.iload_n 3, 1) := by decide +kernel
theorem dX13_pipeRead_118 : decode cX13_pipeRead 118 = .ok (.iastore, 1) := by decide +kernel
theorem dX13_pipeRead_119 : decode cX13_pipeRead 119 = .ok (.aload_n 0, 1) := by decide +kernel
theorem dX13_pipeRead_120 : decode cX13_pipeRead 120 = .ok (.getfield 58, 3) := by decide +kernel
theorem dX13_pipeRead_123 : decode cX13_pipeRead 123 = .ok (.iload 4, 2) := by decide +kernel
theorem dX13_pipeRead_125 : decode cX13_pipeRead 125 = .ok (.iload_n 2, 1) := by decide +kernel
theorem dX13_pipeRead_126 : decode cX13_pipeRead 126 = .ok (.iastore, 1) := by decide +kernel
theorem dX13_pipeRead_127 : decode cX13_pipeRead 127 = .ok (.iload 4, 2) := by decide +kernel
theorem dX13_pipeRead_129 : decode cX13_pipeRead 129 = .ok (.ireturn, 1) := by decide +kernel
theorem dX13_stageRead_0 : decode cX13_stageRead 0 = .ok (.aload_n 0, 1) := by decide +kernel
theorem dX13_stageRead_1 : decode cX13_stageRead 1 = .ok (.aload_n 0, 1) := by decide +kernel
theorem dX13_stageRead_2 : decode cX13_stageRead 2 = .ok (.getfield 206, 3) := by decide +kernel
theorem dX13_stageRead_5 : decode cX13_stageRead 5 = .ok (.invokevirtual 209, 3) := by decide +kernel
theorem dX13_stageRead_8 : decode cX13_stageRead 8 = .ok (.istore_n 3, 1) := by decide +kernel
theorem dX13_stageRead_9 : decode cX13_stageRead 9 = .ok (.iload_n 3, 1) := by decide +kernel
theorem dX13_stageRead_10 : decode cX13_stageRead 10 = .ok (.bipush 123, 2) := by decide +kernel
theorem dX13_stageRead_12 : decode cX13_stageRead 12 = .ok (.if_icmp .ne 92, 3) := by decide +kernel
theorem dX13_stageRead_15 : decode cX13_stageRead 15 = .ok (.iload_n 1, 1) := by decide +kernel
theorem dX13_stageRead_16 : decode cX13_stageRead 16 = .ok (.ifCond .eq 88, 3) := by decide +kernel
theorem dX13_stageRead_19 : decode cX13_stageRead 19 = .ok (.iload_n 2, 1) := by decide +kernel
theorem dX13_stageRead_20 : decode cX13_stageRead 20 = .ok (.iconst 3, 1) := by decide +kernel
theorem dX13_stageRead_21 : decode cX13_stageRead 21 = .ok (.if_icmp .ge 83, 3) := by decide +kernel
theorem dX13_stageRead_24 : decode cX13_stageRead 24 = .ok (.aload_n 0, 1) := by decide +kernel
theorem dX13_stageRead_25 : decode cX13_stageRead 25 = .ok (.dup, 1) := by decide +kernel
theorem dX13_stageRead_26 : decode cX13_stageRead 26 = .ok (.getfield 206, 3) := by decide +kernel
theorem dX13_stageRead_29 : decode cX13_stageRead 29 = .ok (.iconst 1, 1) := by decide +kernel
theorem dX13_stageRead_30 : decode cX13_stageRead 30 = .ok (.iadd, 1) := by decide +kernel
theorem dX13_stageRead_31 : decode cX13_stageRead 31 = .ok (.putfield 206, 3) := by decide +kernel
theorem dX13_stageRead_34 : decode cX13_stageRead 34 = .ok (.aload_n 0, 1) := by decide +kernel
theorem dX13_stageRead_35 : decode cX13_stageRead 35 = .ok (.iload_n 2, 1) := by decide +kernel
theorem dX13_stageRead_36 : decode cX13_stageRead 36 = .ok (.iconst 1, 1) := by decide +kernel
theorem dX13_stageRead_37 : decode cX13_stageRead 37 = .ok (.iadd, 1) := by decide +kernel
theorem dX13_stageRead_38 : decode cX13_stageRead 38 = .ok (.invokevirtual 223, 3) := by decide +kernel
theorem dX13_stageRead_41 : decode cX13_stageRead 41 = .ok (.istore 4, 2) := by decide +kernel
theorem dX13_stageRead_43 : decode cX13_stageRead 43 = .ok (.iload 4, 2) := by decide +kernel
theorem dX13_stageRead_45 : decode cX13_stageRead 45 = .ok (.ifCond .ge 5, 3) := by decide +kernel
theorem dX13_stageRead_48 : decode cX13_stageRead 48 = .ok (.iconst (-1), 1) := by decide +kernel
theorem dX13_stageRead_49 : decode cX13_stageRead 49 = .ok (.ireturn, 1) := by decide +kernel
theorem dX13_stageRead_50 : decode cX13_stageRead 50 = .ok (.aload_n 0, 1) := by decide +kernel
theorem dX13_stageRead_51 : decode cX13_stageRead 51 = .ok (.aload_n 0, 1) := by decide +kernel
theorem dX13_stageRead_52 : decode cX13_stageRead 52 = .ok (.getfield 206, 3) := by decide +kernel
theorem dX13_stageRead_55 : decode cX13_stageRead 55 = .ok (.invokevirtual 209, 3) := by decide +kernel
theorem dX13_stageRead_58 : decode cX13_stageRead 58 = .ok (.bipush 125, 2) := by decide +kernel
theorem dX13_stageRead_60 : decode cX13_stageRead 60 = .ok (.if_icmp .eq 14, 3) := by decide +kernel
theorem dX13_stageRead_63 : decode cX13_stageRead 63 = .ok (.aload_n 0, 1) := by decide +kernel
theorem dX13_stageRead_64 : decode cX13_stageRead 64 = .ok (.aload_n 0, 1) := by decide +kernel
theorem dX13_stageRead_65 : decode cX13_stageRead 65 = .ok (.getfield 206, 3) := by decide +kernel
theorem dX13_stageRead_68 : decode cX13_stageRead 68 = .ok (.invokevirtual 216, 3) := by decide +kernel
theorem dX13_stageRead_71 : decode cX13_stageRead 71 = .ok (.pop, 1) := by decide +kernel
theorem dX13_stageRead_72 : decode cX13_stageRead 72 = .ok (.iconst (-1), 1) := by decide +kernel
theorem dX13_stageRead_73 : decode cX13_stageRead 73 = .ok (.ireturn, 1) := by decide +kernel
theorem dX13_stageRead_74 : decode cX13_stageRead 74 = .ok (.aload_n 0, 1) := by decide +kernel
theorem dX13_stageRead_75 : decode cX13_stageRead 75 = .ok (.dup, 1) := by decide +kernel
theorem dX13_stageRead_76 : decode cX13_stageRead 76 = .ok (.getfield 206, 3) := by decide +kernel
theorem dX13_stageRead_79 : decode cX13_stageRead 79 = .ok (.iconst 1, 1) := by decide +kernel
theorem dX13_stageRead_80 : decode cX13_stageRead 80 = .ok (.iadd, 1) := by decide +kernel
theorem dX13_stageRead_81 : decode cX13_stageRead 81 = .ok (.putfield 206, 3) := by decide +kernel
theorem dX13_stageRead_84 : decode cX13_stageRead 84 = .ok (.aload_n 0, 1) := by decide +kernel
theorem dX13_stageRead_85 : decode cX13_stageRead 85 = .ok (.bipush 14, 2) := by decide +kernel
theorem dX13_stageRead_87 : decode cX13_stageRead 87 = .ok (.invokevirtual 226, 3) := by decide +kernel
theorem dX13_stageRead_90 : decode cX13_stageRead 90 = .ok (.istore 5, 2) := by decide +kernel
theorem dX13_stageRead_92 : decode cX13_stageRead 92 = .ok (.aload_n 0, 1) := by decide +kernel
theorem dX13_stageRead_93 : decode cX13_stageRead 93 = .ok (.getfield 64, 3) := by decide +kernel
theorem dX13_stageRead_96 : decode cX13_stageRead 96 = .ok (.iload 5, 2) := by decide +kernel
theorem dX13_stageRead_98 : decode cX13_stageRead 98 = .ok (.iload 4, 2) := by decide +kernel
theorem dX13_stageRead_100 : decode cX13_stageRead 100 = .ok (.iastore, 1) := by decide +kernel
theorem dX13_stageRead_101 : decode cX13_stageRead 101 = .ok (.iload 5, 2) := by decide +kernel
theorem dX13_stageRead_103 : decode cX13_stageRead 103 = .ok (.ireturn, 1) := by decide +kernel
theorem dX13_stageRead_104 : decode cX13_stageRead 104 = .ok (.aload_n 0, 1) := by decide +kernel
theorem dX13_stageRead_105 : decode cX13_stageRead 105 = .ok (.getfield 206, 3) := by decide +kernel
theorem dX13_stageRead_108 : decode cX13_stageRead 108 = .ok (.istore 4, 2) := by decide +kernel
theorem dX13_stageRead_110 : decode cX13_stageRead 110 = .ok (.aload_n 0, 1) := by decide +kernel
theorem dX13_stageRead_111 : decode cX13_stageRead 111 = .ok (.aload_n 0, 1) := by decide +kernel
theorem dX13_stageRead_112 : decode cX13_stageRead 112 = .ok (.getfield 206, 3) := by decide +kernel
theorem dX13_stageRead_115 : decode cX13_stageRead 115 = .ok (.invokevirtual 209, 3) := by decide +kernel
theorem dX13_stageRead_118 : decode cX13_stageRead 118 = .ok (.i2l, 1) := by decide +kernel
theorem dX13_stageRead_119 : decode cX13_stageRead 119 = .ok (.ldc2_w 229, 3) := by decide +kernel
theorem dX13_stageRead_122 : decode cX13_stageRead 122 = .ok (.ldc2_w 231, 3) := by decide +kernel
theorem dX13_stageRead_125 : decode cX13_stageRead 125 = .ok (.invokestatic 177, 3) := by decide +kernel
theorem dX13_stageRead_128 : decode cX13_stageRead 128 = .ok (.ifCond .eq 16, 3) := by decide +kernel
theorem dX13_stageRead_131 : decode cX13_stageRead 131 = .ok (.aload_n 0, 1) := by decide +kernel
theorem dX13_stageRead_132 : decode cX13_stageRead 132 = .ok (.dup, 1) := by decide +kernel
theorem dX13_stageRead_133 : decode cX13_stageRead 133 = .ok (.getfield 206, 3) := by decide +kernel
theorem dX13_stageRead_136 : decode cX13_stageRead 136 = .ok (.iconst 1, 1) := by decide +kernel
theorem dX13_stageRead_137 : decode cX13_stageRead 137 = .ok (.iadd, 1) := by decide +kernel
theorem dX13_stageRead_138 : decode cX13_stageRead 138 = .ok (.putfield 206, 3) := by decide +kernel
theorem dX13_stageRead_141 : decode cX13_stageRead 141 = .ok (.goto (-31), 3) := by decide +kernel
theorem dX13_stageRead_144 : decode cX13_stageRead 144 = .ok (.aload_n 0, 1) := by decide +kernel
theorem dX13_stageRead_145 : decode cX13_stageRead 145 = .ok (.iload 4, 2) := by decide +kernel
theorem dX13_stageRead_147 : decode cX13_stageRead 147 = .ok (.aload_n 0, 1) := by decide +kernel
theorem dX13_stageRead_148 : decode cX13_stageRead 148 = .ok (.getfield 206, 3) := by decide +kernel
theorem dX13_stageRead_151 : decode cX13_stageRead 151 = .ok (.invokevirtual 233, 3) := by decide +kernel
theorem dX13_stageRead_154 : decode cX13_stageRead 154 = .ok (.istore 5, 2) := by decide +kernel
theorem dX13_stageRead_156 : decode cX13_stageRead 156 = .ok (.iload 5, 2) := by decide +kernel
theorem dX13_stageRead_158 : decode cX13_stageRead 158 = .ok (.ifCond .lt 14, 3) := by decide +kernel
theorem dX13_stageRead_161 : decode cX13_stageRead 161 = .ok (.iload 5, 2) := by decide +kernel
theorem dX13_stageRead_163 : decode cX13_stageRead 163 = .ok (.bipush 11, 2) := by decide +kernel
theorem dX13_stageRead_165 : decode cX13_stageRead 165 = .ok (.if_icmp .lt 16, 3) := by decide +kernel
theorem dX13_stageRead_168 : decode cX13_stageRead 168 = .ok (.iload_n 1, 1) := by decide +kernel
theorem dX13_stageRead_169 : decode cX13_stageRead 169 = .ok (.ifCond .ne 12, 3) := by decide +kernel
theorem dX13_stageRead_172 : decode cX13_stageRead 172 = .ok (.aload_n 0, 1) := by decide +kernel
theorem dX13_stageRead_173 : decode cX13_stageRead 173 = .ok (.iload 4, 2) := by decide +kernel
theorem dX13_stageRead_175 : decode cX13_stageRead 175 = .ok (.invokevirtual 216, 3) := by decide +kernel
theorem dX13_stageRead_178 : decode cX13_stageRead 178 = .ok (.pop, 1) := by decide +kernel
theorem dX13_stageRead_179 : decode cX13_stageRead 179 = .ok (.iconst (-1), 1) := by decide +kernel
theorem dX13_stageRead_180 : decode cX13_stageRead 180 = .ok (.ireturn, 1) := by decide +kernel
theorem dX13_stageRead_181 : decode cX13_stageRead 181 = .ok (.aload_n 0, 1) := by decide +kernel
theorem dX13_stageRead_182 : decode cX13_stageRead 182 = .ok (.iload 5, 2) := by decide +kernel
theorem dX13_stageRead_184 : decode cX13_stageRead 184 = .ok (.invokevirtual 226, 3) := by decide +kernel
theorem dX13_stageRead_187 : decode cX13_stageRead 187 = .ok (.istore 6, 2) := by decide +kernel
theorem dX13_stageRead_189 : decode cX13_stageRead 189 = .ok (.aload_n 0, 1) := by decide +kernel
theorem dX13_stageRead_190 : decode cX13_stageRead 190 = .ok (.iload 6, 2) := by decide +kernel
theorem dX13_stageRead_192 : decode cX13_stageRead 192 = .ok (.iload 5, 2) := by decide +kernel
theorem dX13_stageRead_194 : decode cX13_stageRead 194 = .ok (.invokevirtual 236, 3) := by decide +kernel
theorem dX13_stageRead_197 : decode cX13_stageRead 197 = .ok (.ifCond .eq 8, 3) := by decide +kernel
theorem dX13_stageRead_200 : decode cX13_stageRead 200 = .ok (.iload 6, 2) := by decide +kernel
theorem dX13_stageRead_202 : decode cX13_stageRead 202 = .ok (.goto 4, 3) := by decide +kernel
theorem dX13_stageRead_205 : decode cX13_stageRead 205 = .ok (.iconst (-1), 1) := by decide +kernel
theorem dX13_stageRead_206 : decode cX13_stageRead 206 = .ok (.ireturn, 1) := by decide +kernel
theorem dX13_newStage_0 : decode cX13_newStage 0 = .ok (.bipush 60, 2) := by decide +kernel
theorem dX13_newStage_2 : decode cX13_newStage 2 = .ok (.aload_n 0, 1) := by decide +kernel
theorem dX13_newStage_3 : decode cX13_newStage 3 = .ok (.getfield 196, 3) := by decide +kernel
theorem dX13_newStage_6 : decode cX13_newStage 6 = .ok (.imul, 1) := by decide +kernel
theorem dX13_newStage_7 : decode cX13_newStage 7 = .ok (.aload_n 0, 1) := by decide +kernel
theorem dX13_newStage_8 : decode cX13_newStage 8 = .ok (.getfield 240, 3) := by decide +kernel
theorem dX13_newStage_11 : decode cX13_newStage 11 = .ok (.iadd, 1) := by decide +kernel
theorem dX13_newStage_12 : decode cX13_newStage 12 = .ok (.istore_n 2, 1) := by decide +kernel
theorem dX13_newStage_13 : decode cX13_newStage 13 = .ok (.aload_n 0, 1) := by decide +kernel
theorem dX13_newStage_14 : decode cX13_newStage 14 = .ok (.dup, 1) := by decide +kernel
theorem dX13_newStage_15 : decode cX13_newStage 15 = .ok (.getfield 240, 3) := by decide +kernel
theorem dX13_newStage_18 : decode cX13_newStage 18 = .ok (.iconst 1, 1) := by decide +kernel
theorem dX13_newStage_19 : decode cX13_newStage 19 = .ok (.iadd, 1) := by decide +kernel
theorem dX13_newStage_20 : decode cX13_newStage 20 = .ok (.putfield 240, 3) := by decide +kernel
theorem dX13_newStage_23 : decode cX13_newStage 23 = .ok (.aload_n 0, 1) := by decide +kernel
theorem dX13_newStage_24 : decode cX13_newStage 24 = .ok (.getfield 61, 3) := by decide +kernel
theorem dX13_newStage_27 : decode cX13_newStage 27 = .ok (.iload_n 2, 1) := by decide +kernel
theorem dX13_newStage_28 : decode cX13_newStage 28 = .ok (.iload_n 1, 1) := by decide +kernel
theorem dX13_newStage_29 : decode cX13_newStage 29 = .ok (.iastore, 1) := by decide +kernel
theorem dX13_newStage_30 : decode cX13_newStage 30 = .ok (.aload_n 0, 1) := by decide +kernel
theorem dX13_newStage_31 : decode cX13_newStage 31 = .ok (.getfield 67, 3) := by decide +kernel
theorem dX13_newStage_34 : decode cX13_newStage 34 = .ok (.iload_n 2, 1) := by decide +kernel
theorem dX13_newStage_35 : decode cX13_newStage 35 = .ok (.iconst 0, 1) := by decide +kernel
theorem dX13_newStage_36 : decode cX13_newStage 36 = .ok (.iastore, 1) := by decide +kernel
theorem dX13_newStage_37 : decode cX13_newStage 37 = .ok (.aload_n 0, 1) := by decide +kernel
theorem dX13_newStage_38 : decode cX13_newStage 38 = .ok (.getfield 64, 3) := by decide +kernel
theorem dX13_newStage_41 : decode cX13_newStage 41 = .ok (.iload_n 2, 1) := by decide +kernel
theorem dX13_newStage_42 : decode cX13_newStage 42 = .ok (.iconst 0, 1) := by decide +kernel
theorem dX13_newStage_43 : decode cX13_newStage 43 = .ok (.iastore, 1) := by decide +kernel
theorem dX13_newStage_44 : decode cX13_newStage 44 = .ok (.iload_n 2, 1) := by decide +kernel
theorem dX13_newStage_45 : decode cX13_newStage 45 = .ok (.ireturn, 1) := by decide +kernel
theorem dX13_wordOf_0 : decode cX13_wordOf 0 = .ok (.iconst 0, 1) := by decide +kernel
theorem dX13_wordOf_1 : decode cX13_wordOf 1 = .ok (.istore_n 3, 1) := by decide +kernel
theorem dX13_wordOf_2 : decode cX13_wordOf 2 = .ok (.iload_n 3, 1) := by decide +kernel
theorem dX13_wordOf_3 : decode cX13_wordOf 3 = .ok (.bipush 14, 2) := by decide +kernel
theorem dX13_wordOf_5 : decode cX13_wordOf 5 = .ok (.if_icmp .ge 90, 3) := by decide +kernel
theorem dX13_wordOf_8 : decode cX13_wordOf 8 = .ok (.aload_n 0, 1) := by decide +kernel
theorem dX13_wordOf_9 : decode cX13_wordOf 9 = .ok (.getfield 39, 3) := by decide +kernel
theorem dX13_wordOf_12 : decode cX13_wordOf 12 = .ok (.iload_n 3, 1) := by decide +kernel
theorem dX13_wordOf_13 : decode cX13_wordOf 13 = .ok (.aaload, 1) := by decide +kernel
theorem dX13_wordOf_14 : decode cX13_wordOf 14 = .ok (.invokevirtual 243, 3) := by decide +kernel
theorem dX13_wordOf_17 : decode cX13_wordOf 17 = .ok (.iload_n 2, 1) := by decide +kernel
theorem dX13_wordOf_18 : decode cX13_wordOf 18 = .ok (.iload_n 1, 1) := by decide +kernel
theorem dX13_wordOf_19 : decode cX13_wordOf 19 = .ok (.isub, 1) := by decide +kernel
theorem dX13_wordOf_20 : decode cX13_wordOf 20 = .ok (.if_icmp .ne 7, 3) := by decide +kernel
theorem dX13_wordOf_23 : decode cX13_wordOf 23 = .ok (.iconst 1, 1) := by decide +kernel
theorem dX13_wordOf_24 : decode cX13_wordOf 24 = .ok (.goto 4, 3) := by decide +kernel
theorem dX13_wordOf_27 : decode cX13_wordOf 27 = .ok (.iconst 0, 1) := by decide +kernel
theorem dX13_wordOf_28 : decode cX13_wordOf 28 = .ok (.istore 4, 2) := by decide +kernel
theorem dX13_wordOf_30 : decode cX13_wordOf 30 = .ok (.iconst 0, 1) := by decide +kernel
theorem dX13_wordOf_31 : decode cX13_wordOf 31 = .ok (.istore 5, 2) := by decide +kernel
theorem dX13_wordOf_33 : decode cX13_wordOf 33 = .ok (.iload 4, 2) := by decide +kernel
theorem dX13_wordOf_35 : decode cX13_wordOf 35 = .ok (.ifCond .eq 47, 3) := by decide +kernel
theorem dX13_wordOf_38 : decode cX13_wordOf 38 = .ok (.iload 5, 2) := by decide +kernel
theorem dX13_wordOf_40 : decode cX13_wordOf 40 = .ok (.iload_n 2, 1) := by decide +kernel
theorem dX13_wordOf_41 : decode cX13_wordOf 41 = .ok (.iload_n 1, 1) := by decide +kernel
theorem dX13_wordOf_42 : decode cX13_wordOf 42 = .ok (.isub, 1) := by decide +kernel
theorem dX13_wordOf_43 : decode cX13_wordOf 43 = .ok (.if_icmp .ge 39, 3) := by decide +kernel
theorem dX13_wordOf_46 : decode cX13_wordOf 46 = .ok (.aload_n 0, 1) := by decide +kernel
theorem dX13_wordOf_47 : decode cX13_wordOf 47 = .ok (.getfield 39, 3) := by decide +kernel
theorem dX13_wordOf_50 : decode cX13_wordOf 50 = .ok (.iload_n 3, 1) := by decide +kernel
theorem dX13_wordOf_51 : decode cX13_wordOf 51 = .ok (.aaload, 1) := by decide +kernel
theorem dX13_wordOf_52 : decode cX13_wordOf 52 = .ok (.iload 5, 2) := by decide +kernel
theorem dX13_wordOf_54 : decode cX13_wordOf 54 = .ok (.invokevirtual 247, 3) := by decide +kernel
theorem dX13_wordOf_57 : decode cX13_wordOf 57 = .ok (.aload_n 0, 1) := by decide +kernel
theorem dX13_wordOf_58 : decode cX13_wordOf 58 = .ok (.getfield 89, 3) := by decide +kernel
theorem dX13_wordOf_61 : decode cX13_wordOf 61 = .ok (.iload_n 1, 1) := by decide +kernel
theorem dX13_wordOf_62 : decode cX13_wordOf 62 = .ok (.iload 5, 2) := by decide +kernel
theorem dX13_wordOf_64 : decode cX13_wordOf 64 = .ok (.iadd, 1) := by decide +kernel
theorem dX13_wordOf_65 : decode cX13_wordOf 65 = .ok (.iaload, 1) := by decide +kernel
theorem dX13_wordOf_66 : decode cX13_wordOf 66 = .ok (.if_icmp .ne 7, 3) := by decide +kernel
theorem dX13_wordOf_69 : decode cX13_wordOf 69 = .ok (.iconst 1, 1) := by decide +kernel
theorem dX13_wordOf_70 : decode cX13_wordOf 70 = .ok (.goto 4, 3) := by decide +kernel
theorem dX13_wordOf_73 : decode cX13_wordOf 73 = .ok (.iconst 0, 1) := by decide +kernel
theorem dX13_wordOf_74 : decode cX13_wordOf 74 = .ok (.istore 4, 2) := by decide +kernel
theorem dX13_wordOf_76 : decode cX13_wordOf 76 = .ok (.iinc 5 1, 3) := by decide +kernel
theorem dX13_wordOf_79 : decode cX13_wordOf 79 = .ok (.goto (-46), 3) := by decide +kernel
theorem dX13_wordOf_82 : decode cX13_wordOf 82 = .ok (.iload 4, 2) := by decide +kernel
theorem dX13_wordOf_84 : decode cX13_wordOf 84 = .ok (.ifCond .eq 5, 3) := by decide +kernel
theorem dX13_wordOf_87 : decode cX13_wordOf 87 = .ok (.iload_n 3, 1) := by decide +kernel
theorem dX13_wordOf_88 : decode cX13_wordOf 88 = .ok (.ireturn, 1) := by decide +kernel
theorem dX13_wordOf_89 : decode cX13_wordOf 89 = .ok (.iinc 3 1, 3) := by decide +kernel
theorem dX13_wordOf_92 : decode cX13_wordOf 92 = .ok (.goto (-90), 3) := by decide +kernel
theorem dX13_wordOf_95 : decode cX13_wordOf 95 = .ok (.iconst (-1), 1) := by decide +kernel
theorem dX13_wordOf_96 : decode cX13_wordOf 96 = .ok (.ireturn, 1) := by decide +kernel
theorem dX13_isWhole_0 : decode cX13_isWhole 0 = .ok (.iload_n 2, 1) := by decide +kernel
theorem dX13_isWhole_1 : decode cX13_isWhole 1 = .ok (.bipush 7, 2) := by decide +kernel
theorem dX13_isWhole_3 : decode cX13_isWhole 3 = .ok (.if_icmp .eq 9, 3) := by decide +kernel
theorem dX13_isWhole_6 : decode cX13_isWhole 6 = .ok (.iload_n 2, 1) := by decide +kernel
theorem dX13_isWhole_7 : decode cX13_isWhole 7 = .ok (.bipush 9, 2) := by decide +kernel
theorem dX13_isWhole_9 : decode cX13_isWhole 9 = .ok (.if_icmp .ne 5, 3) := by decide +kernel
theorem dX13_isWhole_12 : decode cX13_isWhole 12 = .ok (.iconst 1, 1) := by decide +kernel
theorem dX13_isWhole_13 : decode cX13_isWhole 13 = .ok (.ireturn, 1) := by decide +kernel
theorem dX13_isWhole_14 : decode cX13_isWhole 14 = .ok (.aload_n 0, 1) := by decide +kernel
theorem dX13_isWhole_15 : decode cX13_isWhole 15 = .ok (.aload_n 0, 1) := by decide +kernel
theorem dX13_isWhole_16 : decode cX13_isWhole 16 = .ok (.getfield 206, 3) := by decide +kernel
theorem dX13_isWhole_19 : decode cX13_isWhole 19 = .ok (.invokevirtual 209, 3) := by decide +kernel
theorem dX13_isWhole_22 : decode cX13_isWhole 22 = .ok (.bipush 32, 2) := by decide +kernel
theorem dX13_isWhole_24 : decode cX13_isWhole 24 = .ok (.if_icmp .eq 12, 3) := by decide +kernel
theorem dX13_isWhole_27 : decode cX13_isWhole 27 = .ok (.aload_n 0, 1) := by decide +kernel
theorem dX13_isWhole_28 : decode cX13_isWhole 28 = .ok (.aload_n 0, 1) := by decide +kernel
theorem dX13_isWhole_29 : decode cX13_isWhole 29 = .ok (.getfield 206, 3) := by decide +kernel
theorem dX13_isWhole_32 : decode cX13_isWhole 32 = .ok (.invokevirtual 216, 3) := by decide +kernel
theorem dX13_isWhole_35 : decode cX13_isWhole 35 = .ok (.ireturn, 1) := by decide +kernel
theorem dX13_isWhole_36 : decode cX13_isWhole 36 = .ok (.iload_n 2, 1) := by decide +kernel
theorem dX13_isWhole_37 : decode cX13_isWhole 37 = .ok (.bipush 8, 2) := by decide +kernel
theorem dX13_isWhole_39 : decode cX13_isWhole 39 = .ok (.if_icmp .ne 72, 3) := by decide +kernel
theorem dX13_isWhole_42 : decode cX13_isWhole 42 = .ok (.aload_n 0, 1) := by decide +kernel
theorem dX13_isWhole_43 : decode cX13_isWhole 43 = .ok (.dup, 1) := by decide +kernel
theorem dX13_isWhole_44 : decode cX13_isWhole 44 = .ok (.getfield 206, 3) := by decide +kernel
theorem dX13_isWhole_47 : decode cX13_isWhole 47 = .ok (.iconst 1, 1) := by decide +kernel
theorem dX13_isWhole_48 : decode cX13_isWhole 48 = .ok (.iadd, 1) := by decide +kernel
theorem dX13_isWhole_49 : decode cX13_isWhole 49 = .ok (.putfield 206, 3) := by decide +kernel
theorem dX13_isWhole_52 : decode cX13_isWhole 52 = .ok (.aload_n 0, 1) := by decide +kernel
theorem dX13_isWhole_53 : decode cX13_isWhole 53 = .ok (.getfield 64, 3) := by decide +kernel
theorem dX13_isWhole_56 : decode cX13_isWhole 56 = .ok (.iload_n 1, 1) := by decide +kernel
theorem dX13_isWhole_57 : decode cX13_isWhole 57 = .ok (.aload_n 0, 1) := by decide +kernel
theorem dX13_isWhole_58 : decode cX13_isWhole 58 = .ok (.aload_n 0, 1) := by decide +kernel
theorem dX13_isWhole_59 : decode cX13_isWhole 59 = .ok (.getfield 206, 3) := by decide +kernel
theorem dX13_isWhole_62 : decode cX13_isWhole 62 = .ok (.invokevirtual 209, 3) := by decide +kernel
theorem dX13_isWhole_65 : decode cX13_isWhole 65 = .ok (.bipush 97, 2) := by decide +kernel
theorem dX13_isWhole_67 : decode cX13_isWhole 67 = .ok (.isub, 1) := by decide +kernel
theorem dX13_isWhole_68 : decode cX13_isWhole 68 = .ok (.iastore, 1) := by decide +kernel
theorem dX13_isWhole_69 : decode cX13_isWhole 69 = .ok (.aload_n 0, 1) := by decide +kernel
theorem dX13_isWhole_70 : decode cX13_isWhole 70 = .ok (.aload_n 0, 1) := by decide +kernel
theorem dX13_isWhole_71 : decode cX13_isWhole 71 = .ok (.getfield 206, 3) := by decide +kernel
theorem dX13_isWhole_74 : decode cX13_isWhole 74 = .ok (.invokevirtual 209, 3) := by decide +kernel
theorem dX13_isWhole_77 : decode cX13_isWhole 77 = .ok (.i2l, 1) := by decide +kernel
theorem dX13_isWhole_78 : decode cX13_isWhole 78 = .ok (.ldc2_w 229, 3) := by decide +kernel
theorem dX13_isWhole_81 : decode cX13_isWhole 81 = .ok (.ldc2_w 251, 3) := by decide +kernel
theorem dX13_isWhole_84 : decode cX13_isWhole 84 = .ok (.invokestatic 177, 3) := by decide +kernel
theorem dX13_isWhole_87 : decode cX13_isWhole 87 = .ok (.ifCond .ne 12, 3) := by decide +kernel
theorem dX13_isWhole_90 : decode cX13_isWhole 90 = .ok (.aload_n 0, 1) := by decide +kernel
theorem dX13_isWhole_91 : decode cX13_isWhole 91 = .ok (.aload_n 0, 1) := by decide +kernel
theorem dX13_isWhole_92 : decode cX13_isWhole 92 = .ok (.getfield 206, 3) := by decide +kernel
theorem dX13_isWhole_95 : decode cX13_isWhole 95 = .ok (.invokevirtual 216, 3) := by decide +kernel
theorem dX13_isWhole_98 : decode cX13_isWhole 98 = .ok (.ireturn, 1) := by decide +kernel
theorem dX13_isWhole_99 : decode cX13_isWhole 99 = .ok (.aload_n 0, 1) := by decide +kernel
theorem dX13_isWhole_100 : decode cX13_isWhole 100 = .ok (.dup, 1) := by decide +kernel
theorem dX13_isWhole_101 : decode cX13_isWhole 101 = .ok (.getfield 206, 3) := by decide +kernel
theorem dX13_isWhole_104 : decode cX13_isWhole 104 = .ok (.iconst 1, 1) := by decide +kernel
theorem dX13_isWhole_105 : decode cX13_isWhole 105 = .ok (.iadd, 1) := by decide +kernel
theorem dX13_isWhole_106 : decode cX13_isWhole 106 = .ok (.putfield 206, 3) := by decide +kernel
theorem dX13_isWhole_109 : decode cX13_isWhole 109 = .ok (.iconst 1, 1) := by decide +kernel
theorem dX13_isWhole_110 : decode cX13_isWhole 110 = .ok (.ireturn, 1) := by decide +kernel
theorem dX13_isWhole_111 : decode cX13_isWhole 111 = .ok (.aload_n 0, 1) := by decide +kernel
theorem dX13_isWhole_112 : decode cX13_isWhole 112 = .ok (.iload_n 1, 1) := by decide +kernel
theorem dX13_isWhole_113 : decode cX13_isWhole 113 = .ok (.invokevirtual 253, 3) := by decide +kernel
theorem dX13_isWhole_116 : decode cX13_isWhole 116 = .ok (.istore_n 3, 1) := by decide +kernel
theorem dX13_isWhole_117 : decode cX13_isWhole 117 = .ok (.iload_n 3, 1) := by decide +kernel
theorem dX13_isWhole_118 : decode cX13_isWhole 118 = .ok (.ifCond .eq 39, 3) := by decide +kernel
theorem dX13_isWhole_121 : decode cX13_isWhole 121 = .ok (.iload_n 2, 1) := by decide +kernel
theorem dX13_isWhole_122 : decode cX13_isWhole 122 = .ok (.ifCond .ne 35, 3) := by decide +kernel
theorem dX13_isWhole_125 : decode cX13_isWhole 125 = .ok (.aload_n 0, 1) := by decide +kernel
theorem dX13_isWhole_126 : decode cX13_isWhole 126 = .ok (.aload_n 0, 1) := by decide +kernel
theorem dX13_isWhole_127 : decode cX13_isWhole 127 = .ok (.getfield 206, 3) := by decide +kernel
theorem dX13_isWhole_130 : decode cX13_isWhole 130 = .ok (.invokevirtual 209, 3) := by decide +kernel
theorem dX13_isWhole_133 : decode cX13_isWhole 133 = .ok (.bipush 32, 2) := by decide +kernel
theorem dX13_isWhole_135 : decode cX13_isWhole 135 = .ok (.if_icmp .ne 22, 3) := by decide +kernel
theorem dX13_isWhole_138 : decode cX13_isWhole 138 = .ok (.aload_n 0, 1) := by decide +kernel
theorem dX13_isWhole_139 : decode cX13_isWhole 139 = .ok (.getfield 67, 3) := by decide +kernel
theorem dX13_isWhole_142 : decode cX13_isWhole 142 = .ok (.iload_n 1, 1) := by decide +kernel
theorem dX13_isWhole_143 : decode cX13_isWhole 143 = .ok (.iaload, 1) := by decide +kernel
theorem dX13_isWhole_144 : decode cX13_isWhole 144 = .ok (.iconst 4, 1) := by decide +kernel
theorem dX13_isWhole_145 : decode cX13_isWhole 145 = .ok (.if_icmp .ge 12, 3) := by decide +kernel
theorem dX13_isWhole_148 : decode cX13_isWhole 148 = .ok (.aload_n 0, 1) := by decide +kernel
theorem dX13_isWhole_149 : decode cX13_isWhole 149 = .ok (.iload_n 1, 1) := by decide +kernel
theorem dX13_isWhole_150 : decode cX13_isWhole 150 = .ok (.invokevirtual 253, 3) := by decide +kernel
theorem dX13_isWhole_153 : decode cX13_isWhole 153 = .ok (.istore_n 3, 1) := by decide +kernel
theorem dX13_isWhole_154 : decode cX13_isWhole 154 = .ok (.goto (-37), 3) := by decide +kernel
theorem dX13_isWhole_157 : decode cX13_isWhole 157 = .ok (.iload_n 3, 1) := by decide +kernel
theorem dX13_isWhole_158 : decode cX13_isWhole 158 = .ok (.ireturn, 1) := by decide +kernel
theorem dX13_isNumber_0 : decode cX13_isNumber 0 = .ok (.aload_n 0, 1) := by decide +kernel
theorem dX13_isNumber_1 : decode cX13_isNumber 1 = .ok (.dup, 1) := by decide +kernel
theorem dX13_isNumber_2 : decode cX13_isNumber 2 = .ok (.getfield 206, 3) := by decide +kernel
theorem dX13_isNumber_5 : decode cX13_isNumber 5 = .ok (.iconst 1, 1) := by decide +kernel
theorem dX13_isNumber_6 : decode cX13_isNumber 6 = .ok (.iadd, 1) := by decide +kernel
theorem dX13_isNumber_7 : decode cX13_isNumber 7 = .ok (.putfield 206, 3) := by decide +kernel
theorem dX13_isNumber_10 : decode cX13_isNumber 10 = .ok (.iconst 0, 1) := by decide +kernel
theorem dX13_isNumber_11 : decode cX13_isNumber 11 = .ok (.istore_n 2, 1) := by decide +kernel
theorem dX13_isNumber_12 : decode cX13_isNumber 12 = .ok (.aload_n 0, 1) := by decide +kernel
theorem dX13_isNumber_13 : decode cX13_isNumber 13 = .ok (.aload_n 0, 1) := by decide +kernel
theorem dX13_isNumber_14 : decode cX13_isNumber 14 = .ok (.getfield 206, 3) := by decide +kernel
theorem dX13_isNumber_17 : decode cX13_isNumber 17 = .ok (.invokevirtual 209, 3) := by decide +kernel
theorem dX13_isNumber_20 : decode cX13_isNumber 20 = .ok (.bipush 36, 2) := by decide +kernel
theorem dX13_isNumber_22 : decode cX13_isNumber 22 = .ok (.if_icmp .ne 82, 3) := by decide +kernel
theorem dX13_isNumber_25 : decode cX13_isNumber 25 = .ok (.aload_n 0, 1) := by decide +kernel
theorem dX13_isNumber_26 : decode cX13_isNumber 26 = .ok (.dup, 1) := by decide +kernel
theorem dX13_isNumber_27 : decode cX13_isNumber 27 = .ok (.getfield 206, 3) := by decide +kernel
theorem dX13_isNumber_30 : decode cX13_isNumber 30 = .ok (.iconst 1, 1) := by decide +kernel
theorem dX13_isNumber_31 : decode cX13_isNumber 31 = .ok (.iadd, 1) := by decide +kernel
theorem dX13_isNumber_32 : decode cX13_isNumber 32 = .ok (.putfield 206, 3) := by decide +kernel
theorem dX13_isNumber_35 : decode cX13_isNumber 35 = .ok (.aload_n 0, 1) := by decide +kernel
theorem dX13_isNumber_36 : decode cX13_isNumber 36 = .ok (.aload_n 0, 1) := by decide +kernel
theorem dX13_isNumber_37 : decode cX13_isNumber 37 = .ok (.getfield 206, 3) := by decide +kernel
theorem dX13_isNumber_40 : decode cX13_isNumber 40 = .ok (.invokevirtual 209, 3) := by decide +kernel
theorem dX13_isNumber_43 : decode cX13_isNumber 43 = .ok (.istore_n 3, 1) := by decide +kernel
theorem dX13_isNumber_44 : decode cX13_isNumber 44 = .ok (.iload_n 3, 1) := by decide +kernel
theorem dX13_isNumber_45 : decode cX13_isNumber 45 = .ok (.i2l, 1) := by decide +kernel
theorem dX13_isNumber_46 : decode cX13_isNumber 46 = .ok (.ldc2_w 229, 3) := by decide +kernel
theorem dX13_isNumber_49 : decode cX13_isNumber 49 = .ok (.ldc2_w 251, 3) := by decide +kernel
theorem dX13_isNumber_52 : decode cX13_isNumber 52 = .ok (.invokestatic 177, 3) := by decide +kernel
theorem dX13_isNumber_55 : decode cX13_isNumber 55 = .ok (.ifCond .ne 18, 3) := by decide +kernel
theorem dX13_isNumber_58 : decode cX13_isNumber 58 = .ok (.iload_n 3, 1) := by decide +kernel
theorem dX13_isNumber_59 : decode cX13_isNumber 59 = .ok (.bipush 112, 2) := by decide +kernel
theorem dX13_isNumber_61 : decode cX13_isNumber 61 = .ok (.if_icmp .eq 12, 3) := by decide +kernel
theorem dX13_isNumber_64 : decode cX13_isNumber 64 = .ok (.aload_n 0, 1) := by decide +kernel
theorem dX13_isNumber_65 : decode cX13_isNumber 65 = .ok (.aload_n 0, 1) := by decide +kernel
theorem dX13_isNumber_66 : decode cX13_isNumber 66 = .ok (.getfield 206, 3) := by decide +kernel
theorem dX13_isNumber_69 : decode cX13_isNumber 69 = .ok (.invokevirtual 216, 3) := by decide +kernel
theorem dX13_isNumber_72 : decode cX13_isNumber 72 = .ok (.ireturn, 1) := by decide +kernel
theorem dX13_isNumber_73 : decode cX13_isNumber 73 = .ok (.iload_n 3, 1) := by decide +kernel
theorem dX13_isNumber_74 : decode cX13_isNumber 74 = .ok (.bipush 112, 2) := by decide +kernel
theorem dX13_isNumber_76 : decode cX13_isNumber 76 = .ok (.if_icmp .ne 8, 3) := by decide +kernel
theorem dX13_isNumber_79 : decode cX13_isNumber 79 = .ok (.bipush (-6), 2) := by decide +kernel
theorem dX13_isNumber_81 : decode cX13_isNumber 81 = .ok (.goto 9, 3) := by decide +kernel
theorem dX13_isNumber_84 : decode cX13_isNumber 84 = .ok (.iconst (-1), 1) := by decide +kernel
theorem dX13_isNumber_85 : decode cX13_isNumber 85 = .ok (.iload_n 3, 1) := by decide +kernel
theorem dX13_isNumber_86 : decode cX13_isNumber 86 = .ok (.bipush 97, 2) := by decide +kernel
theorem dX13_isNumber_88 : decode cX13_isNumber 88 = .ok (.isub, 1) := by decide +kernel
theorem dX13_isNumber_89 : decode cX13_isNumber 89 = .ok (.isub, 1) := by decide +kernel
theorem dX13_isNumber_90 : decode cX13_isNumber 90 = .ok (.istore_n 2, 1) := by decide +kernel
theorem dX13_isNumber_91 : decode cX13_isNumber 91 = .ok (.aload_n 0, 1) := by decide +kernel
theorem dX13_isNumber_92 : decode cX13_isNumber 92 = .ok (.dup, 1) := by decide +kernel
theorem dX13_isNumber_93 : decode cX13_isNumber 93 = .ok (.getfield 206, 3) := by decide +kernel
theorem dX13_isNumber_96 : decode cX13_isNumber 96 = .ok (.iconst 1, 1) := by decide +kernel
theorem dX13_isNumber_97 : decode cX13_isNumber 97 = .ok (.iadd, 1) := by decide +kernel
theorem dX13_isNumber_98 : decode cX13_isNumber 98 = .ok (.putfield 206, 3) := by decide +kernel
theorem dX13_isNumber_101 : decode cX13_isNumber 101 = .ok (.goto 86, 3) := by decide +kernel
theorem dX13_isNumber_104 : decode cX13_isNumber 104 = .ok (.aload_n 0, 1) := by decide +kernel
theorem dX13_isNumber_105 : decode cX13_isNumber 105 = .ok (.getfield 206, 3) := by decide +kernel
theorem dX13_isNumber_108 : decode cX13_isNumber 108 = .ok (.istore_n 3, 1) := by decide +kernel
theorem dX13_isNumber_109 : decode cX13_isNumber 109 = .ok (.aload_n 0, 1) := by decide +kernel
theorem dX13_isNumber_110 : decode cX13_isNumber 110 = .ok (.getfield 206, 3) := by decide +kernel
theorem dX13_isNumber_113 : decode cX13_isNumber 113 = .ok (.iload_n 3, 1) := by decide +kernel
theorem dX13_isNumber_114 : decode cX13_isNumber 114 = .ok (.isub, 1) := by decide +kernel
theorem dX13_isNumber_115 : decode cX13_isNumber 115 = .ok (.iconst 3, 1) := by decide +kernel
theorem dX13_isNumber_116 : decode cX13_isNumber 116 = .ok (.if_icmp .ge 54, 3) := by decide +kernel
theorem dX13_isNumber_119 : decode cX13_isNumber 119 = .ok (.aload_n 0, 1) := by decide +kernel
theorem dX13_isNumber_120 : decode cX13_isNumber 120 = .ok (.aload_n 0, 1) := by decide +kernel
theorem dX13_isNumber_121 : decode cX13_isNumber 121 = .ok (.getfield 206, 3) := by decide +kernel
theorem dX13_isNumber_124 : decode cX13_isNumber 124 = .ok (.invokevirtual 209, 3) := by decide +kernel
theorem dX13_isNumber_127 : decode cX13_isNumber 127 = .ok (.i2l, 1) := by decide +kernel
theorem dX13_isNumber_128 : decode cX13_isNumber 128 = .ok (.ldc2_w 256, 3) := by decide +kernel
theorem dX13_isNumber_131 : decode cX13_isNumber 131 = .ok (.ldc2_w 258, 3) := by decide +kernel
theorem dX13_isNumber_134 : decode cX13_isNumber 134 = .ok (.invokestatic 177, 3) := by decide +kernel
theorem dX13_isNumber_137 : decode cX13_isNumber 137 = .ok (.ifCond .eq 33, 3) := by decide +kernel
theorem dX13_isNumber_140 : decode cX13_isNumber 140 = .ok (.bipush 10, 2) := by decide +kernel
theorem dX13_isNumber_142 : decode cX13_isNumber 142 = .ok (.iload_n 2, 1) := by decide +kernel
theorem dX13_isNumber_143 : decode cX13_isNumber 143 = .ok (.imul, 1) := by decide +kernel
theorem dX13_isNumber_144 : decode cX13_isNumber 144 = .ok (.aload_n 0, 1) := by decide +kernel
theorem dX13_isNumber_145 : decode cX13_isNumber 145 = .ok (.aload_n 0, 1) := by decide +kernel
theorem dX13_isNumber_146 : decode cX13_isNumber 146 = .ok (.getfield 206, 3) := by decide +kernel
theorem dX13_isNumber_149 : decode cX13_isNumber 149 = .ok (.invokevirtual 209, 3) := by decide +kernel
theorem dX13_isNumber_152 : decode cX13_isNumber 152 = .ok (.iadd, 1) := by decide +kernel
theorem dX13_isNumber_153 : decode cX13_isNumber 153 = .ok (.bipush 48, 2) := by decide +kernel
theorem dX13_isNumber_155 : decode cX13_isNumber 155 = .ok (.isub, 1) := by decide +kernel
theorem dX13_isNumber_156 : decode cX13_isNumber 156 = .ok (.istore_n 2, 1) := by decide +kernel
theorem dX13_isNumber_157 : decode cX13_isNumber 157 = .ok (.aload_n 0, 1) := by decide +kernel
theorem dX13_isNumber_158 : decode cX13_isNumber 158 = .ok (.dup, 1) := by decide +kernel
theorem dX13_isNumber_159 : decode cX13_isNumber 159 = .ok (.getfield 206, 3) := by decide +kernel
theorem dX13_isNumber_162 : decode cX13_isNumber 162 = .ok (.iconst 1, 1) := by decide +kernel
theorem dX13_isNumber_163 : decode cX13_isNumber 163 = .ok (.iadd, 1) := by decide +kernel
theorem dX13_isNumber_164 : decode cX13_isNumber 164 = .ok (.putfield 206, 3) := by decide +kernel
theorem dX13_isNumber_167 : decode cX13_isNumber 167 = .ok (.goto (-58), 3) := by decide +kernel
theorem dX13_isNumber_170 : decode cX13_isNumber 170 = .ok (.aload_n 0, 1) := by decide +kernel
theorem dX13_isNumber_171 : decode cX13_isNumber 171 = .ok (.getfield 206, 3) := by decide +kernel
theorem dX13_isNumber_174 : decode cX13_isNumber 174 = .ok (.iload_n 3, 1) := by decide +kernel
theorem dX13_isNumber_175 : decode cX13_isNumber 175 = .ok (.if_icmp .ne 12, 3) := by decide +kernel
theorem dX13_isNumber_178 : decode cX13_isNumber 178 = .ok (.aload_n 0, 1) := by decide +kernel
theorem dX13_isNumber_179 : decode cX13_isNumber 179 = .ok (.aload_n 0, 1) := by decide +kernel
theorem dX13_isNumber_180 : decode cX13_isNumber 180 = .ok (.getfield 206, 3) := by decide +kernel
theorem dX13_isNumber_183 : decode cX13_isNumber 183 = .ok (.invokevirtual 216, 3) := by decide +kernel
theorem dX13_isNumber_186 : decode cX13_isNumber 186 = .ok (.ireturn, 1) := by decide +kernel
theorem dX13_isNumber_187 : decode cX13_isNumber 187 = .ok (.aload_n 0, 1) := by decide +kernel
theorem dX13_isNumber_188 : decode cX13_isNumber 188 = .ok (.getfield 70, 3) := by decide +kernel
theorem dX13_isNumber_191 : decode cX13_isNumber 191 = .ok (.iconst 4, 1) := by decide +kernel
theorem dX13_isNumber_192 : decode cX13_isNumber 192 = .ok (.iload_n 1, 1) := by decide +kernel
theorem dX13_isNumber_193 : decode cX13_isNumber 193 = .ok (.imul, 1) := by decide +kernel
theorem dX13_isNumber_194 : decode cX13_isNumber 194 = .ok (.aload_n 0, 1) := by decide +kernel
theorem dX13_isNumber_195 : decode cX13_isNumber 195 = .ok (.getfield 67, 3) := by decide +kernel
theorem dX13_isNumber_198 : decode cX13_isNumber 198 = .ok (.iload_n 1, 1) := by decide +kernel
theorem dX13_isNumber_199 : decode cX13_isNumber 199 = .ok (.iaload, 1) := by decide +kernel
theorem dX13_isNumber_200 : decode cX13_isNumber 200 = .ok (.iadd, 1) := by decide +kernel
theorem dX13_isNumber_201 : decode cX13_isNumber 201 = .ok (.iload_n 2, 1) := by decide +kernel
theorem dX13_isNumber_202 : decode cX13_isNumber 202 = .ok (.iastore, 1) := by decide +kernel
theorem dX13_isNumber_203 : decode cX13_isNumber 203 = .ok (.aload_n 0, 1) := by decide +kernel
theorem dX13_isNumber_204 : decode cX13_isNumber 204 = .ok (.getfield 67, 3) := by decide +kernel
theorem dX13_isNumber_207 : decode cX13_isNumber 207 = .ok (.iload_n 1, 1) := by decide +kernel
theorem dX13_isNumber_208 : decode cX13_isNumber 208 = .ok (.dup2, 1) := by decide +kernel
theorem dX13_isNumber_209 : decode cX13_isNumber 209 = .ok (.iaload, 1) := by decide +kernel
theorem dX13_isNumber_210 : decode cX13_isNumber 210 = .ok (.iconst 1, 1) := by decide +kernel
theorem dX13_isNumber_211 : decode cX13_isNumber 211 = .ok (.iadd, 1) := by decide +kernel
theorem dX13_isNumber_212 : decode cX13_isNumber 212 = .ok (.iastore, 1) := by decide +kernel
theorem dX13_isNumber_213 : decode cX13_isNumber 213 = .ok (.iconst 1, 1) := by decide +kernel
theorem dX13_isNumber_214 : decode cX13_isNumber 214 = .ok (.ireturn, 1) := by decide +kernel
theorem dX13_line_0 : decode cX13_line 0 = .ok (.aload_n 0, 1) := by decide +kernel
theorem dX13_line_1 : decode cX13_line 1 = .ok (.getfield 196, 3) := by decide +kernel
theorem dX13_line_4 : decode cX13_line 4 = .ok (.bipush 8, 2) := by decide +kernel
theorem dX13_line_6 : decode cX13_line 6 = .ok (.if_icmp .ne 6, 3) := by decide +kernel
theorem dX13_line_9 : decode cX13_line 9 = .ok (.bipush (-4), 2) := by decide +kernel
theorem dX13_line_11 : decode cX13_line 11 = .ok (.ireturn, 1) := by decide +kernel
theorem dX13_line_12 : decode cX13_line 12 = .ok (.aload_n 0, 1) := by decide +kernel
theorem dX13_line_13 : decode cX13_line 13 = .ok (.iconst 0, 1) := by decide +kernel
theorem dX13_line_14 : decode cX13_line 14 = .ok (.putfield 206, 3) := by decide +kernel
theorem dX13_line_17 : decode cX13_line 17 = .ok (.aload_n 0, 1) := by decide +kernel
theorem dX13_line_18 : decode cX13_line 18 = .ok (.iconst 0, 1) := by decide +kernel
theorem dX13_line_19 : decode cX13_line 19 = .ok (.putfield 199, 3) := by decide +kernel
theorem dX13_line_22 : decode cX13_line 22 = .ok (.aload_n 0, 1) := by decide +kernel
theorem dX13_line_23 : decode cX13_line 23 = .ok (.iconst 0, 1) := by decide +kernel
theorem dX13_line_24 : decode cX13_line 24 = .ok (.putfield 220, 3) := by decide +kernel
theorem dX13_line_27 : decode cX13_line 27 = .ok (.aload_n 0, 1) := by decide +kernel
theorem dX13_line_28 : decode cX13_line 28 = .ok (.iconst 0, 1) := by decide +kernel
theorem dX13_line_29 : decode cX13_line 29 = .ok (.putfield 240, 3) := by decide +kernel
theorem dX13_line_32 : decode cX13_line 32 = .ok (.aload_n 0, 1) := by decide +kernel
theorem dX13_line_33 : decode cX13_line 33 = .ok (.iconst 0, 1) := by decide +kernel
theorem dX13_line_34 : decode cX13_line 34 = .ok (.putfield 187, 3) := by decide +kernel
theorem dX13_line_37 : decode cX13_line 37 = .ok (.aload_n 0, 1) := by decide +kernel
theorem dX13_line_38 : decode cX13_line 38 = .ok (.iconst 0, 1) := by decide +kernel
theorem dX13_line_39 : decode cX13_line 39 = .ok (.invokevirtual 223, 3) := by decide +kernel
theorem dX13_line_42 : decode cX13_line 42 = .ok (.istore_n 1, 1) := by decide +kernel
theorem dX13_line_43 : decode cX13_line 43 = .ok (.iload_n 1, 1) := by decide +kernel
theorem dX13_line_44 : decode cX13_line 44 = .ok (.ifCond .lt 25, 3) := by decide +kernel
theorem dX13_line_47 : decode cX13_line 47 = .ok (.aload_n 0, 1) := by decide +kernel
theorem dX13_line_48 : decode cX13_line 48 = .ok (.getfield 206, 3) := by decide +kernel
theorem dX13_line_51 : decode cX13_line 51 = .ok (.aload_n 0, 1) := by decide +kernel
theorem dX13_line_52 : decode cX13_line 52 = .ok (.getfield 181, 3) := by decide +kernel
theorem dX13_line_55 : decode cX13_line 55 = .ok (.if_icmp .ge 14, 3) := by decide +kernel
theorem dX13_line_58 : decode cX13_line 58 = .ok (.aload_n 0, 1) := by decide +kernel
theorem dX13_line_59 : decode cX13_line 59 = .ok (.aload_n 0, 1) := by decide +kernel
theorem dX13_line_60 : decode cX13_line 60 = .ok (.getfield 206, 3) := by decide +kernel
theorem dX13_line_63 : decode cX13_line 63 = .ok (.invokevirtual 216, 3) := by decide +kernel
theorem dX13_line_66 : decode cX13_line 66 = .ok (.pop, 1) := by decide +kernel
theorem dX13_line_67 : decode cX13_line 67 = .ok (.iconst (-1), 1) := by decide +kernel
theorem dX13_line_68 : decode cX13_line 68 = .ok (.istore_n 1, 1) := by decide +kernel
theorem dX13_line_69 : decode cX13_line 69 = .ok (.aload_n 0, 1) := by decide +kernel
theorem dX13_line_70 : decode cX13_line 70 = .ok (.iconst 0, 1) := by decide +kernel
theorem dX13_line_71 : decode cX13_line 71 = .ok (.putfield 181, 3) := by decide +kernel
theorem dX13_line_74 : decode cX13_line 74 = .ok (.iload_n 1, 1) := by decide +kernel
theorem dX13_line_75 : decode cX13_line 75 = .ok (.ifCond .ge 11, 3) := by decide +kernel
theorem dX13_line_78 : decode cX13_line 78 = .ok (.bipush (-10), 2) := by decide +kernel
theorem dX13_line_80 : decode cX13_line 80 = .ok (.aload_n 0, 1) := by decide +kernel
theorem dX13_line_81 : decode cX13_line 81 = .ok (.getfield 184, 3) := by decide +kernel
theorem dX13_line_84 : decode cX13_line 84 = .ok (.isub, 1) := by decide +kernel
theorem dX13_line_85 : decode cX13_line 85 = .ok (.ireturn, 1) := by decide +kernel
theorem dX13_line_86 : decode cX13_line 86 = .ok (.aload_n 0, 1) := by decide +kernel
theorem dX13_line_87 : decode cX13_line 87 = .ok (.getfield 73, 3) := by decide +kernel
theorem dX13_line_90 : decode cX13_line 90 = .ok (.aload_n 0, 1) := by decide +kernel
theorem dX13_line_91 : decode cX13_line 91 = .ok (.getfield 196, 3) := by decide +kernel
theorem dX13_line_94 : decode cX13_line 94 = .ok (.aload_n 0, 1) := by decide +kernel
theorem dX13_line_95 : decode cX13_line 95 = .ok (.getfield 240, 3) := by decide +kernel
theorem dX13_line_98 : decode cX13_line 98 = .ok (.iastore, 1) := by decide +kernel
theorem dX13_line_99 : decode cX13_line 99 = .ok (.aload_n 0, 1) := by decide +kernel
theorem dX13_line_100 : decode cX13_line 100 = .ok (.getfield 76, 3) := by decide +kernel
theorem dX13_line_103 : decode cX13_line 103 = .ok (.aload_n 0, 1) := by decide +kernel
theorem dX13_line_104 : decode cX13_line 104 = .ok (.getfield 196, 3) := by decide +kernel
theorem dX13_line_107 : decode cX13_line 107 = .ok (.aload_n 0, 1) := by decide +kernel
theorem dX13_line_108 : decode cX13_line 108 = .ok (.getfield 187, 3) := by decide +kernel
theorem dX13_line_111 : decode cX13_line 111 = .ok (.iastore, 1) := by decide +kernel
theorem dX13_line_112 : decode cX13_line 112 = .ok (.aload_n 0, 1) := by decide +kernel
theorem dX13_line_113 : decode cX13_line 113 = .ok (.dup, 1) := by decide +kernel
theorem dX13_line_114 : decode cX13_line 114 = .ok (.getfield 196, 3) := by decide +kernel
theorem dX13_line_117 : decode cX13_line 117 = .ok (.iconst 1, 1) := by decide +kernel
theorem dX13_line_118 : decode cX13_line 118 = .ok (.iadd, 1) := by decide +kernel
theorem dX13_line_119 : decode cX13_line 119 = .ok (.putfield 196, 3) := by decide +kernel
theorem dX13_line_122 : decode cX13_line 122 = .ok (.aload_n 0, 1) := by decide +kernel
theorem dX13_line_123 : decode cX13_line 123 = .ok (.getfield 196, 3) := by decide +kernel
theorem dX13_line_126 : decode cX13_line 126 = .ok (.iconst 1, 1) := by decide +kernel
theorem dX13_line_127 : decode cX13_line 127 = .ok (.isub, 1) := by decide +kernel
theorem dX13_line_128 : decode cX13_line 128 = .ok (.ireturn, 1) := by decide +kernel
theorem dX13_isLine_0 : decode cX13_isLine 0 = .ok (.iload_n 1, 1) := by decide +kernel
theorem dX13_isLine_1 : decode cX13_isLine 1 = .ok (.i2l, 1) := by decide +kernel
theorem dX13_isLine_2 : decode cX13_isLine 2 = .ok (.lconst 0, 1) := by decide +kernel
theorem dX13_isLine_3 : decode cX13_isLine 3 = .ok (.aload_n 0, 1) := by decide +kernel
theorem dX13_isLine_4 : decode cX13_isLine 4 = .ok (.getfield 196, 3) := by decide +kernel
theorem dX13_isLine_7 : decode cX13_isLine 7 = .ok (.iconst 1, 1) := by decide +kernel
theorem dX13_isLine_8 : decode cX13_isLine 8 = .ok (.isub, 1) := by decide +kernel
theorem dX13_isLine_9 : decode cX13_isLine 9 = .ok (.i2l, 1) := by decide +kernel
theorem dX13_isLine_10 : decode cX13_isLine 10 = .ok (.invokestatic 177, 3) := by decide +kernel
theorem dX13_isLine_13 : decode cX13_isLine 13 = .ok (.ireturn, 1) := by decide +kernel
theorem dX13_of_0 : decode cX13_of 0 = .ok (.aload_n 0, 1) := by decide +kernel
theorem dX13_of_1 : decode cX13_of 1 = .ok (.iload_n 1, 1) := by decide +kernel
theorem dX13_of_2 : decode cX13_of 2 = .ok (.invokevirtual 260, 3) := by decide +kernel
theorem dX13_of_5 : decode cX13_of 5 = .ok (.ifCond .eq 15, 3) := by decide +kernel
theorem dX13_of_8 : decode cX13_of 8 = .ok (.iload_n 2, 1) := by decide +kernel
theorem dX13_of_9 : decode cX13_of 9 = .ok (.i2l, 1) := by decide +kernel
theorem dX13_of_10 : decode cX13_of 10 = .ok (.lconst 0, 1) := by decide +kernel
theorem dX13_of_11 : decode cX13_of 11 = .ok (.ldc2_w 263, 3) := by decide +kernel
theorem dX13_of_14 : decode cX13_of 14 = .ok (.invokestatic 177, 3) := by decide +kernel
theorem dX13_of_17 : decode cX13_of 17 = .ok (.ifCond .ne 5, 3) := by decide +kernel
theorem dX13_of_20 : decode cX13_of 20 = .ok (.iconst (-1), 1) := by decide +kernel
theorem dX13_of_21 : decode cX13_of 21 = .ok (.ireturn, 1) := by decide +kernel
theorem dX13_of_22 : decode cX13_of 22 = .ok (.iload_n 2, 1) := by decide +kernel
theorem dX13_of_23 : decode cX13_of 23 = .ok (.ifCond .le 24, 3) := by decide +kernel
theorem dX13_of_26 : decode cX13_of 26 = .ok (.iload_n 2, 1) := by decide +kernel
theorem dX13_of_27 : decode cX13_of 27 = .ok (.iconst 1, 1) := by decide +kernel
theorem dX13_of_28 : decode cX13_of 28 = .ok (.if_icmp .ne 12, 3) := by decide +kernel
theorem dX13_of_31 : decode cX13_of 31 = .ok (.aload_n 0, 1) := by decide +kernel
theorem dX13_of_32 : decode cX13_of 32 = .ok (.getfield 73, 3) := by decide +kernel
theorem dX13_of_35 : decode cX13_of 35 = .ok (.iload_n 1, 1) := by decide +kernel
theorem dX13_of_36 : decode cX13_of 36 = .ok (.iaload, 1) := by decide +kernel
theorem dX13_of_37 : decode cX13_of 37 = .ok (.goto 9, 3) := by decide +kernel
theorem dX13_of_40 : decode cX13_of 40 = .ok (.aload_n 0, 1) := by decide +kernel
theorem dX13_of_41 : decode cX13_of 41 = .ok (.getfield 76, 3) := by decide +kernel
theorem dX13_of_44 : decode cX13_of 44 = .ok (.iload_n 1, 1) := by decide +kernel
theorem dX13_of_45 : decode cX13_of 45 = .ok (.iaload, 1) := by decide +kernel
theorem dX13_of_46 : decode cX13_of 46 = .ok (.ireturn, 1) := by decide +kernel
theorem dX13_of_47 : decode cX13_of 47 = .ok (.iconst 0, 1) := by decide +kernel
theorem dX13_of_48 : decode cX13_of 48 = .ok (.istore_n 3, 1) := by decide +kernel
theorem dX13_of_49 : decode cX13_of 49 = .ok (.aload_n 0, 1) := by decide +kernel
theorem dX13_of_50 : decode cX13_of 50 = .ok (.getfield 45, 3) := by decide +kernel
theorem dX13_of_53 : decode cX13_of 53 = .ok (.bipush 60, 2) := by decide +kernel
theorem dX13_of_55 : decode cX13_of 55 = .ok (.iload_n 1, 1) := by decide +kernel
theorem dX13_of_56 : decode cX13_of 56 = .ok (.imul, 1) := by decide +kernel
theorem dX13_of_57 : decode cX13_of 57 = .ok (.iaload, 1) := by decide +kernel
theorem dX13_of_58 : decode cX13_of 58 = .ok (.istore 4, 2) := by decide +kernel
theorem dX13_of_60 : decode cX13_of 60 = .ok (.iload 4, 2) := by decide +kernel
theorem dX13_of_62 : decode cX13_of 62 = .ok (.ifCond .lt 18, 3) := by decide +kernel
theorem dX13_of_65 : decode cX13_of 65 = .ok (.iinc 3 1, 3) := by decide +kernel
theorem dX13_of_68 : decode cX13_of 68 = .ok (.aload_n 0, 1) := by decide +kernel
theorem dX13_of_69 : decode cX13_of 69 = .ok (.getfield 49, 3) := by decide +kernel
theorem dX13_of_72 : decode cX13_of 72 = .ok (.iload 4, 2) := by decide +kernel
theorem dX13_of_74 : decode cX13_of 74 = .ok (.iaload, 1) := by decide +kernel
theorem dX13_of_75 : decode cX13_of 75 = .ok (.istore 4, 2) := by decide +kernel
theorem dX13_of_77 : decode cX13_of 77 = .ok (.goto (-17), 3) := by decide +kernel
theorem dX13_of_80 : decode cX13_of 80 = .ok (.iload_n 3, 1) := by decide +kernel
theorem dX13_of_81 : decode cX13_of 81 = .ok (.ireturn, 1) := by decide +kernel
theorem dX13_define_0 : decode cX13_define 0 = .ok (.iload_n 1, 1) := by decide +kernel
theorem dX13_define_1 : decode cX13_define 1 = .ok (.i2l, 1) := by decide +kernel
theorem dX13_define_2 : decode cX13_define 2 = .ok (.lconst 0, 1) := by decide +kernel
theorem dX13_define_3 : decode cX13_define 3 = .ok (.ldc2_w 263, 3) := by decide +kernel
theorem dX13_define_6 : decode cX13_define 6 = .ok (.invokestatic 177, 3) := by decide +kernel
theorem dX13_define_9 : decode cX13_define 9 = .ok (.ifCond .eq 16, 3) := by decide +kernel
theorem dX13_define_12 : decode cX13_define 12 = .ok (.iload_n 2, 1) := by decide +kernel
theorem dX13_define_13 : decode cX13_define 13 = .ok (.iconst (-1), 1) := by decide +kernel
theorem dX13_define_14 : decode cX13_define 14 = .ok (.if_icmp .eq 13, 3) := by decide +kernel
theorem dX13_define_17 : decode cX13_define 17 = .ok (.aload_n 0, 1) := by decide +kernel
theorem dX13_define_18 : decode cX13_define 18 = .ok (.iload_n 2, 1) := by decide +kernel
theorem dX13_define_19 : decode cX13_define 19 = .ok (.invokevirtual 260, 3) := by decide +kernel
theorem dX13_define_22 : decode cX13_define 22 = .ok (.ifCond .ne 5, 3) := by decide +kernel
theorem dX13_define_25 : decode cX13_define 25 = .ok (.iconst (-1), 1) := by decide +kernel
theorem dX13_define_26 : decode cX13_define 26 = .ok (.ireturn, 1) := by decide +kernel
theorem dX13_define_27 : decode cX13_define 27 = .ok (.aload_n 0, 1) := by decide +kernel
theorem dX13_define_28 : decode cX13_define 28 = .ok (.getfield 82, 3) := by decide +kernel
theorem dX13_define_31 : decode cX13_define 31 = .ok (.iload_n 1, 1) := by decide +kernel
theorem dX13_define_32 : decode cX13_define 32 = .ok (.iaload, 1) := by decide +kernel
theorem dX13_define_33 : decode cX13_define 33 = .ok (.istore_n 3, 1) := by decide +kernel
theorem dX13_define_34 : decode cX13_define 34 = .ok (.aload_n 0, 1) := by decide +kernel
theorem dX13_define_35 : decode cX13_define 35 = .ok (.getfield 82, 3) := by decide +kernel
theorem dX13_define_38 : decode cX13_define 38 = .ok (.iload_n 1, 1) := by decide +kernel
theorem dX13_define_39 : decode cX13_define 39 = .ok (.iload_n 2, 1) := by decide +kernel
theorem dX13_define_40 : decode cX13_define 40 = .ok (.iconst (-1), 1) := by decide +kernel
theorem dX13_define_41 : decode cX13_define 41 = .ok (.if_icmp .ne 8, 3) := by decide +kernel
theorem dX13_define_44 : decode cX13_define 44 = .ok (.bipush (-5), 2) := by decide +kernel
theorem dX13_define_46 : decode cX13_define 46 = .ok (.goto 4, 3) := by decide +kernel
theorem dX13_define_49 : decode cX13_define 49 = .ok (.iload_n 2, 1) := by decide +kernel
theorem dX13_define_50 : decode cX13_define 50 = .ok (.iastore, 1) := by decide +kernel
theorem dX13_define_51 : decode cX13_define 51 = .ok (.iload_n 3, 1) := by decide +kernel
theorem dX13_define_52 : decode cX13_define 52 = .ok (.ireturn, 1) := by decide +kernel
theorem dX13_trap_0 : decode cX13_trap 0 = .ok (.iload_n 1, 1) := by decide +kernel
theorem dX13_trap_1 : decode cX13_trap 1 = .ok (.iconst (-1), 1) := by decide +kernel
theorem dX13_trap_2 : decode cX13_trap 2 = .ok (.if_icmp .eq 13, 3) := by decide +kernel
theorem dX13_trap_5 : decode cX13_trap 5 = .ok (.aload_n 0, 1) := by decide +kernel
theorem dX13_trap_6 : decode cX13_trap 6 = .ok (.iload_n 1, 1) := by decide +kernel
theorem dX13_trap_7 : decode cX13_trap 7 = .ok (.invokevirtual 260, 3) := by decide +kernel
theorem dX13_trap_10 : decode cX13_trap 10 = .ok (.ifCond .ne 5, 3) := by decide +kernel
theorem dX13_trap_13 : decode cX13_trap 13 = .ok (.iconst (-1), 1) := by decide +kernel
theorem dX13_trap_14 : decode cX13_trap 14 = .ok (.ireturn, 1) := by decide +kernel
theorem dX13_trap_15 : decode cX13_trap 15 = .ok (.aload_n 0, 1) := by decide +kernel
theorem dX13_trap_16 : decode cX13_trap 16 = .ok (.getfield 85, 3) := by decide +kernel
theorem dX13_trap_19 : decode cX13_trap 19 = .ok (.istore_n 2, 1) := by decide +kernel
theorem dX13_trap_20 : decode cX13_trap 20 = .ok (.aload_n 0, 1) := by decide +kernel
theorem dX13_trap_21 : decode cX13_trap 21 = .ok (.iload_n 1, 1) := by decide +kernel
theorem dX13_trap_22 : decode cX13_trap 22 = .ok (.iconst (-1), 1) := by decide +kernel
theorem dX13_trap_23 : decode cX13_trap 23 = .ok (.if_icmp .ne 8, 3) := by decide +kernel
theorem dX13_trap_26 : decode cX13_trap 26 = .ok (.bipush (-5), 2) := by decide +kernel
theorem dX13_trap_28 : decode cX13_trap 28 = .ok (.goto 4, 3) := by decide +kernel
theorem dX13_trap_31 : decode cX13_trap 31 = .ok (.iload_n 1, 1) := by decide +kernel
theorem dX13_trap_32 : decode cX13_trap 32 = .ok (.putfield 85, 3) := by decide +kernel
theorem dX13_trap_35 : decode cX13_trap 35 = .ok (.iload_n 2, 1) := by decide +kernel
theorem dX13_trap_36 : decode cX13_trap 36 = .ok (.ireturn, 1) := by decide +kernel
theorem dX13_value_0 : decode cX13_value 0 = .ok (.iload_n 1, 1) := by decide +kernel
theorem dX13_value_1 : decode cX13_value 1 = .ok (.i2l, 1) := by decide +kernel
theorem dX13_value_2 : decode cX13_value 2 = .ok (.lconst 0, 1) := by decide +kernel
theorem dX13_value_3 : decode cX13_value 3 = .ok (.ldc2_w 265, 3) := by decide +kernel
theorem dX13_value_6 : decode cX13_value 6 = .ok (.invokestatic 177, 3) := by decide +kernel
theorem dX13_value_9 : decode cX13_value 9 = .ok (.ifCond .ne 7, 3) := by decide +kernel
theorem dX13_value_12 : decode cX13_value 12 = .ok (.ldc2_w 267, 3) := by decide +kernel
theorem dX13_value_15 : decode cX13_value 15 = .ok (.lreturn, 1) := by decide +kernel
theorem dX13_value_16 : decode cX13_value 16 = .ok (.aload_n 0, 1) := by decide +kernel
theorem dX13_value_17 : decode cX13_value 17 = .ok (.getfield 79, 3) := by decide +kernel
theorem dX13_value_20 : decode cX13_value 20 = .ok (.iload_n 1, 1) := by decide +kernel
theorem dX13_value_21 : decode cX13_value 21 = .ok (.iaload, 1) := by decide +kernel
theorem dX13_value_22 : decode cX13_value 22 = .ok (.i2l, 1) := by decide +kernel
theorem dX13_value_23 : decode cX13_value 23 = .ok (.lstore_n 3, 1) := by decide +kernel
theorem dX13_value_24 : decode cX13_value 24 = .ok (.aload_n 0, 1) := by decide +kernel
theorem dX13_value_25 : decode cX13_value 25 = .ok (.getfield 79, 3) := by decide +kernel
theorem dX13_value_28 : decode cX13_value 28 = .ok (.iload_n 1, 1) := by decide +kernel
theorem dX13_value_29 : decode cX13_value 29 = .ok (.iload_n 2, 1) := by decide +kernel
theorem dX13_value_30 : decode cX13_value 30 = .ok (.iastore, 1) := by decide +kernel
theorem dX13_value_31 : decode cX13_value 31 = .ok (.lload_n 3, 1) := by decide +kernel
theorem dX13_value_32 : decode cX13_value 32 = .ok (.lreturn, 1) := by decide +kernel
theorem dX13_writes_0 : decode cX13_writes 0 = .ok (.iload_n 1, 1) := by decide +kernel
theorem dX13_writes_1 : decode cX13_writes 1 = .ok (.ifCond .ge 35, 3) := by decide +kernel
theorem dX13_writes_4 : decode cX13_writes 4 = .ok (.aload_n 0, 1) := by decide +kernel
theorem dX13_writes_5 : decode cX13_writes 5 = .ok (.getfield 269, 3) := by decide +kernel
theorem dX13_writes_8 : decode cX13_writes 8 = .ok (.bipush 60, 2) := by decide +kernel
theorem dX13_writes_10 : decode cX13_writes 10 = .ok (.if_icmp .ge 64, 3) := by decide +kernel
theorem dX13_writes_13 : decode cX13_writes 13 = .ok (.aload_n 0, 1) := by decide +kernel
theorem dX13_writes_14 : decode cX13_writes 14 = .ok (.getfield 117, 3) := by decide +kernel
theorem dX13_writes_17 : decode cX13_writes 17 = .ok (.aload_n 0, 1) := by decide +kernel
theorem dX13_writes_18 : decode cX13_writes 18 = .ok (.getfield 269, 3) := by decide +kernel
theorem dX13_writes_21 : decode cX13_writes 21 = .ok (.iload_n 2, 1) := by decide +kernel
theorem dX13_writes_22 : decode cX13_writes 22 = .ok (.iastore, 1) := by decide +kernel
theorem dX13_writes_23 : decode cX13_writes 23 = .ok (.aload_n 0, 1) := by decide +kernel
theorem dX13_writes_24 : decode cX13_writes 24 = .ok (.dup, 1) := by decide +kernel
theorem dX13_writes_25 : decode cX13_writes 25 = .ok (.getfield 269, 3) := by decide +kernel
theorem dX13_writes_28 : decode cX13_writes 28 = .ok (.iconst 1, 1) := by decide +kernel
theorem dX13_writes_29 : decode cX13_writes 29 = .ok (.iadd, 1) := by decide +kernel
theorem dX13_writes_30 : decode cX13_writes 30 = .ok (.putfield 269, 3) := by decide +kernel
theorem dX13_writes_33 : decode cX13_writes 33 = .ok (.goto 41, 3) := by decide +kernel
theorem dX13_writes_36 : decode cX13_writes 36 = .ok (.aload_n 0, 1) := by decide +kernel
theorem dX13_writes_37 : decode cX13_writes 37 = .ok (.getfield 114, 3) := by decide +kernel
theorem dX13_writes_40 : decode cX13_writes 40 = .ok (.iload_n 1, 1) := by decide +kernel
theorem dX13_writes_41 : decode cX13_writes 41 = .ok (.iaload, 1) := by decide +kernel
theorem dX13_writes_42 : decode cX13_writes 42 = .ok (.bipush 60, 2) := by decide +kernel
theorem dX13_writes_44 : decode cX13_writes 44 = .ok (.if_icmp .ge 30, 3) := by decide +kernel
theorem dX13_writes_47 : decode cX13_writes 47 = .ok (.aload_n 0, 1) := by decide +kernel
theorem dX13_writes_48 : decode cX13_writes 48 = .ok (.getfield 111, 3) := by decide +kernel
theorem dX13_writes_51 : decode cX13_writes 51 = .ok (.bipush 60, 2) := by decide +kernel
theorem dX13_writes_53 : decode cX13_writes 53 = .ok (.iload_n 1, 1) := by decide +kernel
theorem dX13_writes_54 : decode cX13_writes 54 = .ok (.imul, 1) := by decide +kernel
theorem dX13_writes_55 : decode cX13_writes 55 = .ok (.aload_n 0, 1) := by decide +kernel
theorem dX13_writes_56 : decode cX13_writes 56 = .ok (.getfield 114, 3) := by decide +kernel
theorem dX13_writes_59 : decode cX13_writes 59 = .ok (.iload_n 1, 1) := by decide +kernel
theorem dX13_writes_60 : decode cX13_writes 60 = .ok (.iaload, 1) := by decide +kernel
theorem dX13_writes_61 : decode cX13_writes 61 = .ok (.iadd, 1) := by decide +kernel
theorem dX13_writes_62 : decode cX13_writes 62 = .ok (.iload_n 2, 1) := by decide +kernel
theorem dX13_writes_63 : decode cX13_writes 63 = .ok (.iastore, 1) := by decide +kernel
theorem dX13_writes_64 : decode cX13_writes 64 = .ok (.aload_n 0, 1) := by decide +kernel
theorem dX13_writes_65 : decode cX13_writes 65 = .ok (.getfield 114, 3) := by decide +kernel
theorem dX13_writes_68 : decode cX13_writes 68 = .ok (.iload_n 1, 1) := by decide +kernel
theorem dX13_writes_69 : decode cX13_writes 69 = .ok (.dup2, 1) := by decide +kernel
theorem dX13_writes_70 : decode cX13_writes 70 = .ok (.iaload, 1) := by decide +kernel
theorem dX13_writes_71 : decode cX13_writes 71 = .ok (.iconst 1, 1) := by decide +kernel
theorem dX13_writes_72 : decode cX13_writes 72 = .ok (.iadd, 1) := by decide +kernel
theorem dX13_writes_73 : decode cX13_writes 73 = .ok (.iastore, 1) := by decide +kernel
theorem dX13_writes_74 : decode cX13_writes 74 = .ok (.return_, 1) := by decide +kernel
theorem dX13_begins_0 : decode cX13_begins 0 = .ok (.aload_n 0, 1) := by decide +kernel
theorem dX13_begins_1 : decode cX13_begins 1 = .ok (.getfield 92, 3) := by decide +kernel
theorem dX13_begins_4 : decode cX13_begins 4 = .ok (.iload_n 1, 1) := by decide +kernel
theorem dX13_begins_5 : decode cX13_begins 5 = .ok (.iload_n 2, 1) := by decide +kernel
theorem dX13_begins_6 : decode cX13_begins 6 = .ok (.iastore, 1) := by decide +kernel
theorem dX13_begins_7 : decode cX13_begins 7 = .ok (.aload_n 0, 1) := by decide +kernel
theorem dX13_begins_8 : decode cX13_begins 8 = .ok (.getfield 95, 3) := by decide +kernel
theorem dX13_begins_11 : decode cX13_begins 11 = .ok (.iload_n 1, 1) := by decide +kernel
theorem dX13_begins_12 : decode cX13_begins 12 = .ok (.iload_n 3, 1) := by decide +kernel
theorem dX13_begins_13 : decode cX13_begins 13 = .ok (.iastore, 1) := by decide +kernel
theorem dX13_begins_14 : decode cX13_begins 14 = .ok (.aload_n 0, 1) := by decide +kernel
theorem dX13_begins_15 : decode cX13_begins 15 = .ok (.getfield 114, 3) := by decide +kernel
theorem dX13_begins_18 : decode cX13_begins 18 = .ok (.iload_n 1, 1) := by decide +kernel
theorem dX13_begins_19 : decode cX13_begins 19 = .ok (.iconst 0, 1) := by decide +kernel
theorem dX13_begins_20 : decode cX13_begins 20 = .ok (.iastore, 1) := by decide +kernel
theorem dX13_begins_21 : decode cX13_begins 21 = .ok (.iconst 0, 1) := by decide +kernel
theorem dX13_begins_22 : decode cX13_begins 22 = .ok (.istore 4, 2) := by decide +kernel
theorem dX13_begins_24 : decode cX13_begins 24 = .ok (.iload 4, 2) := by decide +kernel
theorem dX13_begins_26 : decode cX13_begins 26 = .ok (.aload_n 0, 1) := by decide +kernel
theorem dX13_begins_27 : decode cX13_begins 27 = .ok (.getfield 58, 3) := by decide +kernel
theorem dX13_begins_30 : decode cX13_begins 30 = .ok (.iload_n 2, 1) := by decide +kernel
theorem dX13_begins_31 : decode cX13_begins 31 = .ok (.iaload, 1) := by decide +kernel
theorem dX13_begins_32 : decode cX13_begins 32 = .ok (.if_icmp .ge 216, 3) := by decide +kernel
theorem dX13_begins_35 : decode cX13_begins 35 = .ok (.aload_n 0, 1) := by decide +kernel
theorem dX13_begins_36 : decode cX13_begins 36 = .ok (.iload_n 2, 1) := by decide +kernel
theorem dX13_begins_37 : decode cX13_begins 37 = .ok (.iload 4, 2) := by decide +kernel
theorem dX13_begins_39 : decode cX13_begins 39 = .ok (.invokevirtual 272, 3) := by decide +kernel
theorem dX13_begins_42 : decode cX13_begins 42 = .ok (.istore 5, 2) := by decide +kernel
theorem dX13_begins_44 : decode cX13_begins 44 = .ok (.iconst 0, 1) := by decide +kernel
theorem dX13_begins_45 : decode cX13_begins 45 = .ok (.istore 6, 2) := by decide +kernel
theorem dX13_begins_47 : decode cX13_begins 47 = .ok (.iload 6, 2) := by decide +kernel
theorem dX13_begins_49 : decode cX13_begins 49 = .ok (.aload_n 0, 1) := by decide +kernel
theorem dX13_begins_50 : decode cX13_begins 50 = .ok (.getfield 67, 3) := by decide +kernel
theorem dX13_begins_53 : decode cX13_begins 53 = .ok (.iload 5, 2) := by decide +kernel
theorem dX13_begins_55 : decode cX13_begins 55 = .ok (.iaload, 1) := by decide +kernel
theorem dX13_begins_56 : decode cX13_begins 56 = .ok (.if_icmp .ge 70, 3) := by decide +kernel
theorem dX13_begins_59 : decode cX13_begins 59 = .ok (.aload_n 0, 1) := by decide +kernel
theorem dX13_begins_60 : decode cX13_begins 60 = .ok (.getfield 70, 3) := by decide +kernel
theorem dX13_begins_63 : decode cX13_begins 63 = .ok (.iconst 4, 1) := by decide +kernel
theorem dX13_begins_64 : decode cX13_begins 64 = .ok (.iload 5, 2) := by decide +kernel
theorem dX13_begins_66 : decode cX13_begins 66 = .ok (.imul, 1) := by decide +kernel
theorem dX13_begins_67 : decode cX13_begins 67 = .ok (.iload 6, 2) := by decide +kernel
theorem dX13_begins_69 : decode cX13_begins 69 = .ok (.iadd, 1) := by decide +kernel
theorem dX13_begins_70 : decode cX13_begins 70 = .ok (.iaload, 1) := by decide +kernel
theorem dX13_begins_71 : decode cX13_begins 71 = .ok (.istore 7, 2) := by decide +kernel
theorem dX13_begins_73 : decode cX13_begins 73 = .ok (.aload_n 0, 1) := by decide +kernel
theorem dX13_begins_74 : decode cX13_begins 74 = .ok (.getfield 98, 3) := by decide +kernel
theorem dX13_begins_77 : decode cX13_begins 77 = .ok (.bipush 24, 2) := by decide +kernel
theorem dX13_begins_79 : decode cX13_begins 79 = .ok (.iload_n 1, 1) := by decide +kernel
theorem dX13_begins_80 : decode cX13_begins 80 = .ok (.imul, 1) := by decide +kernel
theorem dX13_begins_81 : decode cX13_begins 81 = .ok (.iconst 4, 1) := by decide +kernel
theorem dX13_begins_82 : decode cX13_begins 82 = .ok (.iload 4, 2) := by decide +kernel
theorem dX13_begins_84 : decode cX13_begins 84 = .ok (.imul, 1) := by decide +kernel
theorem dX13_begins_85 : decode cX13_begins 85 = .ok (.iadd, 1) := by decide +kernel
theorem dX13_begins_86 : decode cX13_begins 86 = .ok (.iload 6, 2) := by decide +kernel
theorem dX13_begins_88 : decode cX13_begins 88 = .ok (.iadd, 1) := by decide +kernel
theorem dX13_begins_89 : decode cX13_begins 89 = .ok (.iload 7, 2) := by decide +kernel
theorem dX13_begins_91 : decode cX13_begins 91 = .ok (.bipush (-6), 2) := by decide +kernel
theorem dX13_begins_93 : decode cX13_begins 93 = .ok (.if_icmp .ne 7, 3) := by decide +kernel
theorem dX13_begins_96 : decode cX13_begins 96 = .ok (.iload_n 3, 1) := by decide +kernel
theorem dX13_begins_97 : decode cX13_begins 97 = .ok (.goto 22, 3) := by decide +kernel
theorem dX13_begins_100 : decode cX13_begins 100 = .ok (.iload 7, 2) := by decide +kernel
theorem dX13_begins_102 : decode cX13_begins 102 = .ok (.ifCond .ge 15, 3) := by decide +kernel
theorem dX13_begins_105 : decode cX13_begins 105 = .ok (.aload_n 0, 1) := by decide +kernel
theorem dX13_begins_106 : decode cX13_begins 106 = .ok (.getfield 79, 3) := by decide +kernel
theorem dX13_begins_109 : decode cX13_begins 109 = .ok (.iconst (-1), 1) := by decide +kernel
theorem dX13_begins_110 : decode cX13_begins 110 = .ok (.iload 7, 2) := by decide +kernel
theorem dX13_begins_112 : decode cX13_begins 112 = .ok (.isub, 1) := by decide +kernel
theorem dX13_begins_113 : decode cX13_begins 113 = .ok (.iaload, 1) := by decide +kernel
theorem dX13_begins_114 : decode cX13_begins 114 = .ok (.goto 5, 3) := by decide +kernel
theorem dX13_begins_117 : decode cX13_begins 117 = .ok (.iload 7, 2) := by decide +kernel
theorem dX13_begins_119 : decode cX13_begins 119 = .ok (.iastore, 1) := by decide +kernel
theorem dX13_begins_120 : decode cX13_begins 120 = .ok (.iinc 6 1, 3) := by decide +kernel
theorem dX13_begins_123 : decode cX13_begins 123 = .ok (.goto (-76), 3) := by decide +kernel
theorem dX13_begins_126 : decode cX13_begins 126 = .ok (.aload_n 0, 1) := by decide +kernel
theorem dX13_begins_127 : decode cX13_begins 127 = .ok (.getfield 101, 3) := by decide +kernel
theorem dX13_begins_130 : decode cX13_begins 130 = .ok (.bipush 6, 2) := by decide +kernel
theorem dX13_begins_132 : decode cX13_begins 132 = .ok (.iload_n 1, 1) := by decide +kernel
theorem dX13_begins_133 : decode cX13_begins 133 = .ok (.imul, 1) := by decide +kernel
theorem dX13_begins_134 : decode cX13_begins 134 = .ok (.iload 4, 2) := by decide +kernel
theorem dX13_begins_136 : decode cX13_begins 136 = .ok (.iadd, 1) := by decide +kernel
theorem dX13_begins_137 : decode cX13_begins 137 = .ok (.iconst 0, 1) := by decide +kernel
theorem dX13_begins_138 : decode cX13_begins 138 = .ok (.iastore, 1) := by decide +kernel
theorem dX13_begins_139 : decode cX13_begins 139 = .ok (.aload_n 0, 1) := by decide +kernel
theorem dX13_begins_140 : decode cX13_begins 140 = .ok (.getfield 104, 3) := by decide +kernel
theorem dX13_begins_143 : decode cX13_begins 143 = .ok (.bipush 6, 2) := by decide +kernel
theorem dX13_begins_145 : decode cX13_begins 145 = .ok (.iload_n 1, 1) := by decide +kernel
theorem dX13_begins_146 : decode cX13_begins 146 = .ok (.imul, 1) := by decide +kernel
theorem dX13_begins_147 : decode cX13_begins 147 = .ok (.iload 4, 2) := by decide +kernel
theorem dX13_begins_149 : decode cX13_begins 149 = .ok (.iadd, 1) := by decide +kernel
theorem dX13_begins_150 : decode cX13_begins 150 = .ok (.iconst 0, 1) := by decide +kernel
theorem dX13_begins_151 : decode cX13_begins 151 = .ok (.bastore, 1) := by decide +kernel
theorem dX13_begins_152 : decode cX13_begins 152 = .ok (.aload_n 0, 1) := by decide +kernel
theorem dX13_begins_153 : decode cX13_begins 153 = .ok (.getfield 108, 3) := by decide +kernel
theorem dX13_begins_156 : decode cX13_begins 156 = .ok (.bipush 6, 2) := by decide +kernel
theorem dX13_begins_158 : decode cX13_begins 158 = .ok (.iload_n 1, 1) := by decide +kernel
theorem dX13_begins_159 : decode cX13_begins 159 = .ok (.imul, 1) := by decide +kernel
theorem dX13_begins_160 : decode cX13_begins 160 = .ok (.iload 4, 2) := by decide +kernel
theorem dX13_begins_162 : decode cX13_begins 162 = .ok (.iadd, 1) := by decide +kernel
theorem dX13_begins_163 : decode cX13_begins 163 = .ok (.aload_n 0, 1) := by decide +kernel
theorem dX13_begins_164 : decode cX13_begins 164 = .ok (.getfield 61, 3) := by decide +kernel
theorem dX13_begins_167 : decode cX13_begins 167 = .ok (.iload 5, 2) := by decide +kernel
theorem dX13_begins_169 : decode cX13_begins 169 = .ok (.iaload, 1) := by decide +kernel
theorem dX13_begins_170 : decode cX13_begins 170 = .ok (.bipush 10, 2) := by decide +kernel
theorem dX13_begins_172 : decode cX13_begins 172 = .ok (.if_icmp .ne 20, 3) := by decide +kernel
theorem dX13_begins_175 : decode cX13_begins 175 = .ok (.aload_n 0, 1) := by decide +kernel
theorem dX13_begins_176 : decode cX13_begins 176 = .ok (.getfield 98, 3) := by decide +kernel
theorem dX13_begins_179 : decode cX13_begins 179 = .ok (.bipush 24, 2) := by decide +kernel
theorem dX13_begins_181 : decode cX13_begins 181 = .ok (.iload_n 1, 1) := by decide +kernel
theorem dX13_begins_182 : decode cX13_begins 182 = .ok (.imul, 1) := by decide +kernel
theorem dX13_begins_183 : decode cX13_begins 183 = .ok (.iconst 4, 1) := by decide +kernel
theorem dX13_begins_184 : decode cX13_begins 184 = .ok (.iload 4, 2) := by decide +kernel
theorem dX13_begins_186 : decode cX13_begins 186 = .ok (.imul, 1) := by decide +kernel
theorem dX13_begins_187 : decode cX13_begins 187 = .ok (.iadd, 1) := by decide +kernel
theorem dX13_begins_188 : decode cX13_begins 188 = .ok (.iaload, 1) := by decide +kernel
theorem dX13_begins_189 : decode cX13_begins 189 = .ok (.goto 52, 3) := by decide +kernel
theorem dX13_begins_192 : decode cX13_begins 192 = .ok (.aload_n 0, 1) := by decide +kernel
theorem dX13_begins_193 : decode cX13_begins 193 = .ok (.getfield 61, 3) := by decide +kernel
theorem dX13_begins_196 : decode cX13_begins 196 = .ok (.iload 5, 2) := by decide +kernel
theorem dX13_begins_198 : decode cX13_begins 198 = .ok (.iaload, 1) := by decide +kernel
theorem dX13_begins_199 : decode cX13_begins 199 = .ok (.iconst 4, 1) := by decide +kernel
theorem dX13_begins_200 : decode cX13_begins 200 = .ok (.if_icmp .ne 24, 3) := by decide +kernel
theorem dX13_begins_203 : decode cX13_begins 203 = .ok (.aload_n 0, 1) := by decide +kernel
theorem dX13_begins_204 : decode cX13_begins 204 = .ok (.getfield 98, 3) := by decide +kernel
theorem dX13_begins_207 : decode cX13_begins 207 = .ok (.bipush 24, 2) := by decide +kernel
theorem dX13_begins_209 : decode cX13_begins 209 = .ok (.iload_n 1, 1) := by decide +kernel
theorem dX13_begins_210 : decode cX13_begins 210 = .ok (.imul, 1) := by decide +kernel
theorem dX13_begins_211 : decode cX13_begins 211 = .ok (.iconst 4, 1) := by decide +kernel
theorem dX13_begins_212 : decode cX13_begins 212 = .ok (.iload 4, 2) := by decide +kernel
theorem dX13_begins_214 : decode cX13_begins 214 = .ok (.imul, 1) := by decide +kernel
theorem dX13_begins_215 : decode cX13_begins 215 = .ok (.iadd, 1) := by decide +kernel
theorem dX13_begins_216 : decode cX13_begins 216 = .ok (.iaload, 1) := by decide +kernel
theorem dX13_begins_217 : decode cX13_begins 217 = .ok (.ifCond .ne 7, 3) := by decide +kernel
theorem dX13_begins_220 : decode cX13_begins 220 = .ok (.iconst 2, 1) := by decide +kernel
theorem dX13_begins_221 : decode cX13_begins 221 = .ok (.goto 20, 3) := by decide +kernel
theorem dX13_begins_224 : decode cX13_begins 224 = .ok (.aload_n 0, 1) := by decide +kernel
theorem dX13_begins_225 : decode cX13_begins 225 = .ok (.getfield 61, 3) := by decide +kernel
theorem dX13_begins_228 : decode cX13_begins 228 = .ok (.iload 5, 2) := by decide +kernel
theorem dX13_begins_230 : decode cX13_begins 230 = .ok (.iaload, 1) := by decide +kernel
theorem dX13_begins_231 : decode cX13_begins 231 = .ok (.bipush 8, 2) := by decide +kernel
theorem dX13_begins_233 : decode cX13_begins 233 = .ok (.if_icmp .ne 7, 3) := by decide +kernel
theorem dX13_begins_236 : decode cX13_begins 236 = .ok (.iconst 1, 1) := by decide +kernel
theorem dX13_begins_237 : decode cX13_begins 237 = .ok (.goto 4, 3) := by decide +kernel
theorem dX13_begins_240 : decode cX13_begins 240 = .ok (.iconst 0, 1) := by decide +kernel
theorem dX13_begins_241 : decode cX13_begins 241 = .ok (.iastore, 1) := by decide +kernel
theorem dX13_begins_242 : decode cX13_begins 242 = .ok (.iinc 4 1, 3) := by decide +kernel
theorem dX13_begins_245 : decode cX13_begins 245 = .ok (.goto (-221), 3) := by decide +kernel
theorem dX13_begins_248 : decode cX13_begins 248 = .ok (.return_, 1) := by decide +kernel
theorem dX13_stageAt_0 : decode cX13_stageAt 0 = .ok (.aload_n 0, 1) := by decide +kernel
theorem dX13_stageAt_1 : decode cX13_stageAt 1 = .ok (.getfield 55, 3) := by decide +kernel
theorem dX13_stageAt_4 : decode cX13_stageAt 4 = .ok (.iload_n 1, 1) := by decide +kernel
theorem dX13_stageAt_5 : decode cX13_stageAt 5 = .ok (.iaload, 1) := by decide +kernel
theorem dX13_stageAt_6 : decode cX13_stageAt 6 = .ok (.iload_n 2, 1) := by decide +kernel
theorem dX13_stageAt_7 : decode cX13_stageAt 7 = .ok (.iadd, 1) := by decide +kernel
theorem dX13_stageAt_8 : decode cX13_stageAt 8 = .ok (.ireturn, 1) := by decide +kernel
theorem dX13_ahead_0 : decode cX13_ahead 0 = .ok (.iload_n 2, 1) := by decide +kernel
theorem dX13_ahead_1 : decode cX13_ahead 1 = .ok (.ifCond .ne 9, 3) := by decide +kernel
theorem dX13_ahead_4 : decode cX13_ahead 4 = .ok (.ldc2_w 267, 3) := by decide +kernel
theorem dX13_ahead_7 : decode cX13_ahead 7 = .ok (.goto 11, 3) := by decide +kernel
theorem dX13_ahead_10 : decode cX13_ahead 10 = .ok (.aload_n 0, 1) := by decide +kernel
theorem dX13_ahead_11 : decode cX13_ahead 11 = .ok (.iload_n 1, 1) := by decide +kernel
theorem dX13_ahead_12 : decode cX13_ahead 12 = .ok (.iload_n 2, 1) := by decide +kernel
theorem dX13_ahead_13 : decode cX13_ahead 13 = .ok (.iconst 1, 1) := by decide +kernel
theorem dX13_ahead_14 : decode cX13_ahead 14 = .ok (.isub, 1) := by decide +kernel
theorem dX13_ahead_15 : decode cX13_ahead 15 = .ok (.invokevirtual 275, 3) := by decide +kernel
theorem dX13_ahead_18 : decode cX13_ahead 18 = .ok (.lstore_n 3, 1) := by decide +kernel
theorem dX13_ahead_19 : decode cX13_ahead 19 = .ok (.aload_n 0, 1) := by decide +kernel
theorem dX13_ahead_20 : decode cX13_ahead 20 = .ok (.dup, 1) := by decide +kernel
theorem dX13_ahead_21 : decode cX13_ahead 21 = .ok (.getfield 279, 3) := by decide +kernel
theorem dX13_ahead_24 : decode cX13_ahead 24 = .ok (.lload_n 3, 1) := by decide +kernel
theorem dX13_ahead_25 : decode cX13_ahead 25 = .ok (.ldc2_w 267, 3) := by decide +kernel
theorem dX13_ahead_28 : decode cX13_ahead 28 = .ok (.lcmp, 1) := by decide +kernel
theorem dX13_ahead_29 : decode cX13_ahead 29 = .ok (.ifCond .ne 7, 3) := by decide +kernel
theorem dX13_ahead_32 : decode cX13_ahead 32 = .ok (.iconst 0, 1) := by decide +kernel
theorem dX13_ahead_33 : decode cX13_ahead 33 = .ok (.goto 4, 3) := by decide +kernel
theorem dX13_ahead_36 : decode cX13_ahead 36 = .ok (.iconst 1, 1) := by decide +kernel
theorem dX13_ahead_37 : decode cX13_ahead 37 = .ok (.iadd, 1) := by decide +kernel
theorem dX13_ahead_38 : decode cX13_ahead 38 = .ok (.putfield 279, 3) := by decide +kernel
theorem dX13_ahead_41 : decode cX13_ahead 41 = .ok (.lload_n 3, 1) := by decide +kernel
theorem dX13_ahead_42 : decode cX13_ahead 42 = .ok (.lreturn, 1) := by decide +kernel
theorem dX13_next_0 : decode cX13_next 0 = .ok (.bipush 6, 2) := by decide +kernel
theorem dX13_next_2 : decode cX13_next 2 = .ok (.iload_n 1, 1) := by decide +kernel
theorem dX13_next_3 : decode cX13_next 3 = .ok (.imul, 1) := by decide +kernel
theorem dX13_next_4 : decode cX13_next 4 = .ok (.iload_n 2, 1) := by decide +kernel
theorem dX13_next_5 : decode cX13_next 5 = .ok (.iadd, 1) := by decide +kernel
theorem dX13_next_6 : decode cX13_next 6 = .ok (.istore_n 3, 1) := by decide +kernel
theorem dX13_next_7 : decode cX13_next 7 = .ok (.aload_n 0, 1) := by decide +kernel
theorem dX13_next_8 : decode cX13_next 8 = .ok (.getfield 104, 3) := by decide +kernel
theorem dX13_next_11 : decode cX13_next 11 = .ok (.iload_n 3, 1) := by decide +kernel
theorem dX13_next_12 : decode cX13_next 12 = .ok (.baload, 1) := by decide +kernel
theorem dX13_next_13 : decode cX13_next 13 = .ok (.ifCond .eq 7, 3) := by decide +kernel
theorem dX13_next_16 : decode cX13_next 16 = .ok (.ldc2_w 267, 3) := by decide +kernel
theorem dX13_next_19 : decode cX13_next 19 = .ok (.lreturn, 1) := by decide +kernel
theorem dX13_next_20 : decode cX13_next 20 = .ok (.aload_n 0, 1) := by decide +kernel
theorem dX13_next_21 : decode cX13_next 21 = .ok (.iload_n 1, 1) := by decide +kernel
theorem dX13_next_22 : decode cX13_next 22 = .ok (.iload_n 2, 1) := by decide +kernel
theorem dX13_next_23 : decode cX13_next 23 = .ok (.aload_n 0, 1) := by decide +kernel
theorem dX13_next_24 : decode cX13_next 24 = .ok (.aload_n 0, 1) := by decide +kernel
theorem dX13_next_25 : decode cX13_next 25 = .ok (.getfield 92, 3) := by decide +kernel
theorem dX13_next_28 : decode cX13_next 28 = .ok (.iload_n 1, 1) := by decide +kernel
theorem dX13_next_29 : decode cX13_next 29 = .ok (.iaload, 1) := by decide +kernel
theorem dX13_next_30 : decode cX13_next 30 = .ok (.iload_n 2, 1) := by decide +kernel
theorem dX13_next_31 : decode cX13_next 31 = .ok (.invokevirtual 272, 3) := by decide +kernel
theorem dX13_next_34 : decode cX13_next 34 = .ok (.aload_n 0, 1) := by decide +kernel
theorem dX13_next_35 : decode cX13_next 35 = .ok (.getfield 98, 3) := by decide +kernel
theorem dX13_next_38 : decode cX13_next 38 = .ok (.bipush 24, 2) := by decide +kernel
theorem dX13_next_40 : decode cX13_next 40 = .ok (.iload_n 1, 1) := by decide +kernel
theorem dX13_next_41 : decode cX13_next 41 = .ok (.imul, 1) := by decide +kernel
theorem dX13_next_42 : decode cX13_next 42 = .ok (.iconst 4, 1) := by decide +kernel
theorem dX13_next_43 : decode cX13_next 43 = .ok (.iload_n 2, 1) := by decide +kernel
theorem dX13_next_44 : decode cX13_next 44 = .ok (.imul, 1) := by decide +kernel
theorem dX13_next_45 : decode cX13_next 45 = .ok (.iadd, 1) := by decide +kernel
theorem dX13_next_46 : decode cX13_next 46 = .ok (.iaload, 1) := by decide +kernel
theorem dX13_next_47 : decode cX13_next 47 = .ok (.invokevirtual 282, 3) := by decide +kernel
theorem dX13_next_50 : decode cX13_next 50 = .ok (.lstore 4, 2) := by decide +kernel
theorem dX13_next_52 : decode cX13_next 52 = .ok (.aload_n 0, 1) := by decide +kernel
theorem dX13_next_53 : decode cX13_next 53 = .ok (.getfield 104, 3) := by decide +kernel
theorem dX13_next_56 : decode cX13_next 56 = .ok (.iload_n 3, 1) := by decide +kernel
theorem dX13_next_57 : decode cX13_next 57 = .ok (.lload 4, 2) := by decide +kernel
theorem dX13_next_59 : decode cX13_next 59 = .ok (.ldc2_w 267, 3) := by decide +kernel
theorem dX13_next_62 : decode cX13_next 62 = .ok (.lcmp, 1) := by decide +kernel
theorem dX13_next_63 : decode cX13_next 63 = .ok (.ifCond .ne 7, 3) := by decide +kernel
theorem dX13_next_66 : decode cX13_next 66 = .ok (.iconst 1, 1) := by decide +kernel
theorem dX13_next_67 : decode cX13_next 67 = .ok (.goto 4, 3) := by decide +kernel
theorem dX13_next_70 : decode cX13_next 70 = .ok (.iconst 0, 1) := by decide +kernel
theorem dX13_next_71 : decode cX13_next 71 = .ok (.bastore, 1) := by decide +kernel
theorem dX13_next_72 : decode cX13_next 72 = .ok (.lload 4, 2) := by decide +kernel
theorem dX13_next_74 : decode cX13_next 74 = .ok (.lreturn, 1) := by decide +kernel
theorem dX13_asked_0 : decode cX13_asked 0 = .ok (.bipush 6, 2) := by decide +kernel
theorem dX13_asked_2 : decode cX13_asked 2 = .ok (.iload_n 1, 1) := by decide +kernel
theorem dX13_asked_3 : decode cX13_asked 3 = .ok (.imul, 1) := by decide +kernel
theorem dX13_asked_4 : decode cX13_asked 4 = .ok (.iload_n 2, 1) := by decide +kernel
theorem dX13_asked_5 : decode cX13_asked 5 = .ok (.iadd, 1) := by decide +kernel
theorem dX13_asked_6 : decode cX13_asked 6 = .ok (.istore 5, 2) := by decide +kernel
theorem dX13_asked_8 : decode cX13_asked 8 = .ok (.aload_n 0, 1) := by decide +kernel
theorem dX13_asked_9 : decode cX13_asked 9 = .ok (.getfield 61, 3) := by decide +kernel
theorem dX13_asked_12 : decode cX13_asked 12 = .ok (.iload_n 3, 1) := by decide +kernel
theorem dX13_asked_13 : decode cX13_asked 13 = .ok (.iaload, 1) := by decide +kernel
theorem dX13_asked_14 : decode cX13_asked 14 = .ok (.tableswitch 337 0 10 #[58, 116, 159, 159, 210, 251, 260, 313, 320, 333, 333], 58) := by decide +kernel
theorem dX13_asked_72 : decode cX13_asked 72 = .ok (.aload_n 0, 1) := by decide +kernel
theorem dX13_asked_73 : decode cX13_asked 73 = .ok (.getfield 101, 3) := by decide +kernel
theorem dX13_asked_76 : decode cX13_asked 76 = .ok (.iload 5, 2) := by decide +kernel
theorem dX13_asked_78 : decode cX13_asked 78 = .ok (.dup2, 1) := by decide +kernel
theorem dX13_asked_79 : decode cX13_asked 79 = .ok (.iaload, 1) := by decide +kernel
theorem dX13_asked_80 : decode cX13_asked 80 = .ok (.iconst 1, 1) := by decide +kernel
theorem dX13_asked_81 : decode cX13_asked 81 = .ok (.iadd, 1) := by decide +kernel
theorem dX13_asked_82 : decode cX13_asked 82 = .ok (.iastore, 1) := by decide +kernel
theorem dX13_asked_83 : decode cX13_asked 83 = .ok (.aload_n 0, 1) := by decide +kernel
theorem dX13_asked_84 : decode cX13_asked 84 = .ok (.getfield 101, 3) := by decide +kernel
theorem dX13_asked_87 : decode cX13_asked 87 = .ok (.iload 5, 2) := by decide +kernel
theorem dX13_asked_89 : decode cX13_asked 89 = .ok (.iaload, 1) := by decide +kernel
theorem dX13_asked_90 : decode cX13_asked 90 = .ok (.aload_n 0, 1) := by decide +kernel
theorem dX13_asked_91 : decode cX13_asked 91 = .ok (.getfield 67, 3) := by decide +kernel
theorem dX13_asked_94 : decode cX13_asked 94 = .ok (.iload_n 3, 1) := by decide +kernel
theorem dX13_asked_95 : decode cX13_asked 95 = .ok (.iaload, 1) := by decide +kernel
theorem dX13_asked_96 : decode cX13_asked 96 = .ok (.if_icmp .gt 30, 3) := by decide +kernel
theorem dX13_asked_99 : decode cX13_asked 99 = .ok (.aload_n 0, 1) := by decide +kernel
theorem dX13_asked_100 : decode cX13_asked 100 = .ok (.getfield 98, 3) := by decide +kernel
theorem dX13_asked_103 : decode cX13_asked 103 = .ok (.bipush 24, 2) := by decide +kernel
theorem dX13_asked_105 : decode cX13_asked 105 = .ok (.iload_n 1, 1) := by decide +kernel
theorem dX13_asked_106 : decode cX13_asked 106 = .ok (.imul, 1) := by decide +kernel
theorem dX13_asked_107 : decode cX13_asked 107 = .ok (.iconst 4, 1) := by decide +kernel
theorem dX13_asked_108 : decode cX13_asked 108 = .ok (.iload_n 2, 1) := by decide +kernel
theorem dX13_asked_109 : decode cX13_asked 109 = .ok (.imul, 1) := by decide +kernel
theorem dX13_asked_110 : decode cX13_asked 110 = .ok (.iadd, 1) := by decide +kernel
theorem dX13_asked_111 : decode cX13_asked 111 = .ok (.aload_n 0, 1) := by decide +kernel
theorem dX13_asked_112 : decode cX13_asked 112 = .ok (.getfield 101, 3) := by decide +kernel
theorem dX13_asked_115 : decode cX13_asked 115 = .ok (.iload 5, 2) := by decide +kernel
theorem dX13_asked_117 : decode cX13_asked 117 = .ok (.iaload, 1) := by decide +kernel
theorem dX13_asked_118 : decode cX13_asked 118 = .ok (.iadd, 1) := by decide +kernel
theorem dX13_asked_119 : decode cX13_asked 119 = .ok (.iconst 1, 1) := by decide +kernel
theorem dX13_asked_120 : decode cX13_asked 120 = .ok (.isub, 1) := by decide +kernel
theorem dX13_asked_121 : decode cX13_asked 121 = .ok (.iaload, 1) := by decide +kernel
theorem dX13_asked_122 : decode cX13_asked 122 = .ok (.i2l, 1) := by decide +kernel
theorem dX13_asked_123 : decode cX13_asked 123 = .ok (.goto 6, 3) := by decide +kernel
theorem dX13_asked_126 : decode cX13_asked 126 = .ok (.ldc2_w 267, 3) := by decide +kernel
theorem dX13_asked_129 : decode cX13_asked 129 = .ok (.lreturn, 1) := by decide +kernel
theorem dX13_asked_130 : decode cX13_asked 130 = .ok (.aload_n 0, 1) := by decide +kernel
theorem dX13_asked_131 : decode cX13_asked 131 = .ok (.getfield 101, 3) := by decide +kernel
theorem dX13_asked_134 : decode cX13_asked 134 = .ok (.iload 5, 2) := by decide +kernel
theorem dX13_asked_136 : decode cX13_asked 136 = .ok (.dup2, 1) := by decide +kernel
theorem dX13_asked_137 : decode cX13_asked 137 = .ok (.iaload, 1) := by decide +kernel
theorem dX13_asked_138 : decode cX13_asked 138 = .ok (.iconst 1, 1) := by decide +kernel
theorem dX13_asked_139 : decode cX13_asked 139 = .ok (.iadd, 1) := by decide +kernel
theorem dX13_asked_140 : decode cX13_asked 140 = .ok (.iastore, 1) := by decide +kernel
theorem dX13_asked_141 : decode cX13_asked 141 = .ok (.aload_n 0, 1) := by decide +kernel
theorem dX13_asked_142 : decode cX13_asked 142 = .ok (.getfield 101, 3) := by decide +kernel
theorem dX13_asked_145 : decode cX13_asked 145 = .ok (.iload 5, 2) := by decide +kernel
theorem dX13_asked_147 : decode cX13_asked 147 = .ok (.iaload, 1) := by decide +kernel
theorem dX13_asked_148 : decode cX13_asked 148 = .ok (.iload 4, 2) := by decide +kernel
theorem dX13_asked_150 : decode cX13_asked 150 = .ok (.bipush 99, 2) := by decide +kernel
theorem dX13_asked_152 : decode cX13_asked 152 = .ok (.invokestatic 286, 3) := by decide +kernel
theorem dX13_asked_155 : decode cX13_asked 155 = .ok (.if_icmp .gt 14, 3) := by decide +kernel
theorem dX13_asked_158 : decode cX13_asked 158 = .ok (.aload_n 0, 1) := by decide +kernel
theorem dX13_asked_159 : decode cX13_asked 159 = .ok (.getfield 101, 3) := by decide +kernel
theorem dX13_asked_162 : decode cX13_asked 162 = .ok (.iload 5, 2) := by decide +kernel
theorem dX13_asked_164 : decode cX13_asked 164 = .ok (.iaload, 1) := by decide +kernel
theorem dX13_asked_165 : decode cX13_asked 165 = .ok (.i2l, 1) := by decide +kernel
theorem dX13_asked_166 : decode cX13_asked 166 = .ok (.goto 6, 3) := by decide +kernel
theorem dX13_asked_169 : decode cX13_asked 169 = .ok (.ldc2_w 267, 3) := by decide +kernel
theorem dX13_asked_172 : decode cX13_asked 172 = .ok (.lreturn, 1) := by decide +kernel
theorem dX13_asked_173 : decode cX13_asked 173 = .ok (.aload_n 0, 1) := by decide +kernel
theorem dX13_asked_174 : decode cX13_asked 174 = .ok (.iload_n 1, 1) := by decide +kernel
theorem dX13_asked_175 : decode cX13_asked 175 = .ok (.iload_n 2, 1) := by decide +kernel
theorem dX13_asked_176 : decode cX13_asked 176 = .ok (.invokevirtual 289, 3) := by decide +kernel
theorem dX13_asked_179 : decode cX13_asked 179 = .ok (.lstore 6, 2) := by decide +kernel
theorem dX13_asked_181 : decode cX13_asked 181 = .ok (.lload 6, 2) := by decide +kernel
theorem dX13_asked_183 : decode cX13_asked 183 = .ok (.ldc2_w 267, 3) := by decide +kernel
theorem dX13_asked_186 : decode cX13_asked 186 = .ok (.lcmp, 1) := by decide +kernel
theorem dX13_asked_187 : decode cX13_asked 187 = .ok (.ifCond .ne 9, 3) := by decide +kernel
theorem dX13_asked_190 : decode cX13_asked 190 = .ok (.ldc2_w 267, 3) := by decide +kernel
theorem dX13_asked_193 : decode cX13_asked 193 = .ok (.goto 30, 3) := by decide +kernel
theorem dX13_asked_196 : decode cX13_asked 196 = .ok (.aload_n 0, 1) := by decide +kernel
theorem dX13_asked_197 : decode cX13_asked 197 = .ok (.getfield 61, 3) := by decide +kernel
theorem dX13_asked_200 : decode cX13_asked 200 = .ok (.iload_n 3, 1) := by decide +kernel
theorem dX13_asked_201 : decode cX13_asked 201 = .ok (.iaload, 1) := by decide +kernel
theorem dX13_asked_202 : decode cX13_asked 202 = .ok (.iconst 2, 1) := by decide +kernel
theorem dX13_asked_203 : decode cX13_asked 203 = .ok (.if_icmp .ne 13, 3) := by decide +kernel
theorem dX13_asked_206 : decode cX13_asked 206 = .ok (.lload 6, 2) := by decide +kernel
theorem dX13_asked_208 : decode cX13_asked 208 = .ok (.l2i, 1) := by decide +kernel
theorem dX13_asked_209 : decode cX13_asked 209 = .ok (.iload 4, 2) := by decide +kernel
theorem dX13_asked_211 : decode cX13_asked 211 = .ok (.iadd, 1) := by decide +kernel
theorem dX13_asked_212 : decode cX13_asked 212 = .ok (.i2l, 1) := by decide +kernel
theorem dX13_asked_213 : decode cX13_asked 213 = .ok (.goto 10, 3) := by decide +kernel
theorem dX13_asked_216 : decode cX13_asked 216 = .ok (.lload 6, 2) := by decide +kernel
theorem dX13_asked_218 : decode cX13_asked 218 = .ok (.l2i, 1) := by decide +kernel
theorem dX13_asked_219 : decode cX13_asked 219 = .ok (.iload 4, 2) := by decide +kernel
theorem dX13_asked_221 : decode cX13_asked 221 = .ok (.imul, 1) := by decide +kernel
theorem dX13_asked_222 : decode cX13_asked 222 = .ok (.i2l, 1) := by decide +kernel
theorem dX13_asked_223 : decode cX13_asked 223 = .ok (.lreturn, 1) := by decide +kernel
theorem dX13_asked_224 : decode cX13_asked 224 = .ok (.iload 4, 2) := by decide +kernel
theorem dX13_asked_226 : decode cX13_asked 226 = .ok (.ifCond .ne 9, 3) := by decide +kernel
theorem dX13_asked_229 : decode cX13_asked 229 = .ok (.ldc2_w 267, 3) := by decide +kernel
theorem dX13_asked_232 : decode cX13_asked 232 = .ok (.goto 9, 3) := by decide +kernel
theorem dX13_asked_235 : decode cX13_asked 235 = .ok (.aload_n 0, 1) := by decide +kernel
theorem dX13_asked_236 : decode cX13_asked 236 = .ok (.iload_n 1, 1) := by decide +kernel
theorem dX13_asked_237 : decode cX13_asked 237 = .ok (.iload_n 2, 1) := by decide +kernel
theorem dX13_asked_238 : decode cX13_asked 238 = .ok (.invokevirtual 289, 3) := by decide +kernel
theorem dX13_asked_241 : decode cX13_asked 241 = .ok (.lstore 6, 2) := by decide +kernel
theorem dX13_asked_243 : decode cX13_asked 243 = .ok (.lload 6, 2) := by decide +kernel
theorem dX13_asked_245 : decode cX13_asked 245 = .ok (.ldc2_w 267, 3) := by decide +kernel
theorem dX13_asked_248 : decode cX13_asked 248 = .ok (.lcmp, 1) := by decide +kernel
theorem dX13_asked_249 : decode cX13_asked 249 = .ok (.ifCond .ne 9, 3) := by decide +kernel
theorem dX13_asked_252 : decode cX13_asked 252 = .ok (.ldc2_w 267, 3) := by decide +kernel
theorem dX13_asked_255 : decode cX13_asked 255 = .ok (.goto 9, 3) := by decide +kernel
theorem dX13_asked_258 : decode cX13_asked 258 = .ok (.lload 6, 2) := by decide +kernel
theorem dX13_asked_260 : decode cX13_asked 260 = .ok (.iload 4, 2) := by decide +kernel
theorem dX13_asked_262 : decode cX13_asked 262 = .ok (.i2l, 1) := by decide +kernel
theorem dX13_asked_263 : decode cX13_asked 263 = .ok (.lrem, 1) := by decide +kernel
theorem dX13_asked_264 : decode cX13_asked 264 = .ok (.lreturn, 1) := by decide +kernel
theorem dX13_asked_265 : decode cX13_asked 265 = .ok (.aload_n 0, 1) := by decide +kernel
theorem dX13_asked_266 : decode cX13_asked 266 = .ok (.iload_n 1, 1) := by decide +kernel
theorem dX13_asked_267 : decode cX13_asked 267 = .ok (.iload_n 2, 1) := by decide +kernel
theorem dX13_asked_268 : decode cX13_asked 268 = .ok (.iload 4, 2) := by decide +kernel
theorem dX13_asked_270 : decode cX13_asked 270 = .ok (.invokevirtual 292, 3) := by decide +kernel
theorem dX13_asked_273 : decode cX13_asked 273 = .ok (.lreturn, 1) := by decide +kernel
theorem dX13_asked_274 : decode cX13_asked 274 = .ok (.aload_n 0, 1) := by decide +kernel
theorem dX13_asked_275 : decode cX13_asked 275 = .ok (.getfield 101, 3) := by decide +kernel
theorem dX13_asked_278 : decode cX13_asked 278 = .ok (.iload 5, 2) := by decide +kernel
theorem dX13_asked_280 : decode cX13_asked 280 = .ok (.iaload, 1) := by decide +kernel
theorem dX13_asked_281 : decode cX13_asked 281 = .ok (.iload 4, 2) := by decide +kernel
theorem dX13_asked_283 : decode cX13_asked 283 = .ok (.if_icmp .lt 9, 3) := by decide +kernel
theorem dX13_asked_286 : decode cX13_asked 286 = .ok (.ldc2_w 267, 3) := by decide +kernel
theorem dX13_asked_289 : decode cX13_asked 289 = .ok (.goto 9, 3) := by decide +kernel
theorem dX13_asked_292 : decode cX13_asked 292 = .ok (.aload_n 0, 1) := by decide +kernel
theorem dX13_asked_293 : decode cX13_asked 293 = .ok (.iload_n 1, 1) := by decide +kernel
theorem dX13_asked_294 : decode cX13_asked 294 = .ok (.iload_n 2, 1) := by decide +kernel
theorem dX13_asked_295 : decode cX13_asked 295 = .ok (.invokevirtual 289, 3) := by decide +kernel
theorem dX13_asked_298 : decode cX13_asked 298 = .ok (.lstore 6, 2) := by decide +kernel
theorem dX13_asked_300 : decode cX13_asked 300 = .ok (.aload_n 0, 1) := by decide +kernel
theorem dX13_asked_301 : decode cX13_asked 301 = .ok (.getfield 101, 3) := by decide +kernel
theorem dX13_asked_304 : decode cX13_asked 304 = .ok (.iload 5, 2) := by decide +kernel
theorem dX13_asked_306 : decode cX13_asked 306 = .ok (.dup2, 1) := by decide +kernel
theorem dX13_asked_307 : decode cX13_asked 307 = .ok (.iaload, 1) := by decide +kernel
theorem dX13_asked_308 : decode cX13_asked 308 = .ok (.lload 6, 2) := by decide +kernel
theorem dX13_asked_310 : decode cX13_asked 310 = .ok (.ldc2_w 267, 3) := by decide +kernel
theorem dX13_asked_313 : decode cX13_asked 313 = .ok (.lcmp, 1) := by decide +kernel
theorem dX13_asked_314 : decode cX13_asked 314 = .ok (.ifCond .ne 7, 3) := by decide +kernel
theorem dX13_asked_317 : decode cX13_asked 317 = .ok (.iconst 0, 1) := by decide +kernel
theorem dX13_asked_318 : decode cX13_asked 318 = .ok (.goto 4, 3) := by decide +kernel
theorem dX13_asked_321 : decode cX13_asked 321 = .ok (.iconst 1, 1) := by decide +kernel
theorem dX13_asked_322 : decode cX13_asked 322 = .ok (.iadd, 1) := by decide +kernel
theorem dX13_asked_323 : decode cX13_asked 323 = .ok (.iastore, 1) := by decide +kernel
theorem dX13_asked_324 : decode cX13_asked 324 = .ok (.lload 6, 2) := by decide +kernel
theorem dX13_asked_326 : decode cX13_asked 326 = .ok (.lreturn, 1) := by decide +kernel
theorem dX13_asked_327 : decode cX13_asked 327 = .ok (.aload_n 0, 1) := by decide +kernel
theorem dX13_asked_328 : decode cX13_asked 328 = .ok (.iload_n 1, 1) := by decide +kernel
theorem dX13_asked_329 : decode cX13_asked 329 = .ok (.iload_n 2, 1) := by decide +kernel
theorem dX13_asked_330 : decode cX13_asked 330 = .ok (.invokevirtual 296, 3) := by decide +kernel
theorem dX13_asked_333 : decode cX13_asked 333 = .ok (.lreturn, 1) := by decide +kernel
theorem dX13_asked_334 : decode cX13_asked 334 = .ok (.aload_n 0, 1) := by decide +kernel
theorem dX13_asked_335 : decode cX13_asked 335 = .ok (.iload_n 1, 1) := by decide +kernel
theorem dX13_asked_336 : decode cX13_asked 336 = .ok (.iload_n 2, 1) := by decide +kernel
theorem dX13_asked_337 : decode cX13_asked 337 = .ok (.aload_n 0, 1) := by decide +kernel
theorem dX13_asked_338 : decode cX13_asked 338 = .ok (.getfield 64, 3) := by decide +kernel
theorem dX13_asked_341 : decode cX13_asked 341 = .ok (.iload_n 3, 1) := by decide +kernel
theorem dX13_asked_342 : decode cX13_asked 342 = .ok (.iaload, 1) := by decide +kernel
theorem dX13_asked_343 : decode cX13_asked 343 = .ok (.invokevirtual 299, 3) := by decide +kernel
theorem dX13_asked_346 : decode cX13_asked 346 = .ok (.lreturn, 1) := by decide +kernel
theorem dX13_asked_347 : decode cX13_asked 347 = .ok (.ldc2_w 267, 3) := by decide +kernel
theorem dX13_asked_350 : decode cX13_asked 350 = .ok (.lreturn, 1) := by decide +kernel
theorem dX13_asked_351 : decode cX13_asked 351 = .ok (.aload_n 0, 1) := by decide +kernel
theorem dX13_asked_352 : decode cX13_asked 352 = .ok (.iload_n 1, 1) := by decide +kernel
theorem dX13_asked_353 : decode cX13_asked 353 = .ok (.iload_n 3, 1) := by decide +kernel
theorem dX13_asked_354 : decode cX13_asked 354 = .ok (.iload 4, 2) := by decide +kernel
theorem dX13_asked_356 : decode cX13_asked 356 = .ok (.invokevirtual 302, 3) := by decide +kernel
theorem dX13_asked_359 : decode cX13_asked 359 = .ok (.lreturn, 1) := by decide +kernel
theorem dX13_keeps_0 : decode cX13_keeps 0 = .ok (.aload_n 0, 1) := by decide +kernel
theorem dX13_keeps_1 : decode cX13_keeps 1 = .ok (.iload_n 1, 1) := by decide +kernel
theorem dX13_keeps_2 : decode cX13_keeps 2 = .ok (.iload_n 2, 1) := by decide +kernel
theorem dX13_keeps_3 : decode cX13_keeps 3 = .ok (.invokevirtual 289, 3) := by decide +kernel
theorem dX13_keeps_6 : decode cX13_keeps 6 = .ok (.lstore 4, 2) := by decide +kernel
theorem dX13_keeps_8 : decode cX13_keeps 8 = .ok (.lload 4, 2) := by decide +kernel
theorem dX13_keeps_10 : decode cX13_keeps 10 = .ok (.ldc2_w 267, 3) := by decide +kernel
theorem dX13_keeps_13 : decode cX13_keeps 13 = .ok (.lcmp, 1) := by decide +kernel
theorem dX13_keeps_14 : decode cX13_keeps 14 = .ok (.ifCond .eq 27, 3) := by decide +kernel
theorem dX13_keeps_17 : decode cX13_keeps 17 = .ok (.iload_n 3, 1) := by decide +kernel
theorem dX13_keeps_18 : decode cX13_keeps 18 = .ok (.ifCond .ne 13, 3) := by decide +kernel
theorem dX13_keeps_21 : decode cX13_keeps 21 = .ok (.lload 4, 2) := by decide +kernel
theorem dX13_keeps_23 : decode cX13_keeps 23 = .ok (.lconst 0, 1) := by decide +kernel
theorem dX13_keeps_24 : decode cX13_keeps 24 = .ok (.lcmp, 1) := by decide +kernel
theorem dX13_keeps_25 : decode cX13_keeps 25 = .ok (.ifCond .ne 19, 3) := by decide +kernel
theorem dX13_keeps_28 : decode cX13_keeps 28 = .ok (.goto 13, 3) := by decide +kernel
theorem dX13_keeps_31 : decode cX13_keeps 31 = .ok (.lload 4, 2) := by decide +kernel
theorem dX13_keeps_33 : decode cX13_keeps 33 = .ok (.iload_n 3, 1) := by decide +kernel
theorem dX13_keeps_34 : decode cX13_keeps 34 = .ok (.i2l, 1) := by decide +kernel
theorem dX13_keeps_35 : decode cX13_keeps 35 = .ok (.lrem, 1) := by decide +kernel
theorem dX13_keeps_36 : decode cX13_keeps 36 = .ok (.lconst 0, 1) := by decide +kernel
theorem dX13_keeps_37 : decode cX13_keeps 37 = .ok (.lcmp, 1) := by decide +kernel
theorem dX13_keeps_38 : decode cX13_keeps 38 = .ok (.ifCond .ne 6, 3) := by decide +kernel
theorem dX13_keeps_41 : decode cX13_keeps 41 = .ok (.lload 4, 2) := by decide +kernel
theorem dX13_keeps_43 : decode cX13_keeps 43 = .ok (.lreturn, 1) := by decide +kernel
theorem dX13_keeps_44 : decode cX13_keeps 44 = .ok (.goto (-44), 3) := by decide +kernel
theorem dX13_sums_0 : decode cX13_sums 0 = .ok (.bipush 6, 2) := by decide +kernel
theorem dX13_sums_2 : decode cX13_sums 2 = .ok (.iload_n 1, 1) := by decide +kernel
theorem dX13_sums_3 : decode cX13_sums 3 = .ok (.imul, 1) := by decide +kernel
theorem dX13_sums_4 : decode cX13_sums 4 = .ok (.iload_n 2, 1) := by decide +kernel
theorem dX13_sums_5 : decode cX13_sums 5 = .ok (.iadd, 1) := by decide +kernel
theorem dX13_sums_6 : decode cX13_sums 6 = .ok (.istore_n 3, 1) := by decide +kernel
theorem dX13_sums_7 : decode cX13_sums 7 = .ok (.aload_n 0, 1) := by decide +kernel
theorem dX13_sums_8 : decode cX13_sums 8 = .ok (.getfield 101, 3) := by decide +kernel
theorem dX13_sums_11 : decode cX13_sums 11 = .ok (.iload_n 3, 1) := by decide +kernel
theorem dX13_sums_12 : decode cX13_sums 12 = .ok (.iaload, 1) := by decide +kernel
theorem dX13_sums_13 : decode cX13_sums 13 = .ok (.iconst 1, 1) := by decide +kernel
theorem dX13_sums_14 : decode cX13_sums 14 = .ok (.if_icmp .ne 7, 3) := by decide +kernel
theorem dX13_sums_17 : decode cX13_sums 17 = .ok (.ldc2_w 267, 3) := by decide +kernel
theorem dX13_sums_20 : decode cX13_sums 20 = .ok (.lreturn, 1) := by decide +kernel
theorem dX13_sums_21 : decode cX13_sums 21 = .ok (.aload_n 0, 1) := by decide +kernel
theorem dX13_sums_22 : decode cX13_sums 22 = .ok (.getfield 101, 3) := by decide +kernel
theorem dX13_sums_25 : decode cX13_sums 25 = .ok (.iload_n 3, 1) := by decide +kernel
theorem dX13_sums_26 : decode cX13_sums 26 = .ok (.iconst 1, 1) := by decide +kernel
theorem dX13_sums_27 : decode cX13_sums 27 = .ok (.iastore, 1) := by decide +kernel
theorem dX13_sums_28 : decode cX13_sums 28 = .ok (.iconst 0, 1) := by decide +kernel
theorem dX13_sums_29 : decode cX13_sums 29 = .ok (.istore 4, 2) := by decide +kernel
theorem dX13_sums_31 : decode cX13_sums 31 = .ok (.aload_n 0, 1) := by decide +kernel
theorem dX13_sums_32 : decode cX13_sums 32 = .ok (.iload_n 1, 1) := by decide +kernel
theorem dX13_sums_33 : decode cX13_sums 33 = .ok (.iload_n 2, 1) := by decide +kernel
theorem dX13_sums_34 : decode cX13_sums 34 = .ok (.invokevirtual 289, 3) := by decide +kernel
theorem dX13_sums_37 : decode cX13_sums 37 = .ok (.lstore 5, 2) := by decide +kernel
theorem dX13_sums_39 : decode cX13_sums 39 = .ok (.lload 5, 2) := by decide +kernel
theorem dX13_sums_41 : decode cX13_sums 41 = .ok (.ldc2_w 267, 3) := by decide +kernel
theorem dX13_sums_44 : decode cX13_sums 44 = .ok (.lcmp, 1) := by decide +kernel
theorem dX13_sums_45 : decode cX13_sums 45 = .ok (.ifCond .eq 22, 3) := by decide +kernel
theorem dX13_sums_48 : decode cX13_sums 48 = .ok (.iload 4, 2) := by decide +kernel
theorem dX13_sums_50 : decode cX13_sums 50 = .ok (.lload 5, 2) := by decide +kernel
theorem dX13_sums_52 : decode cX13_sums 52 = .ok (.l2i, 1) := by decide +kernel
theorem dX13_sums_53 : decode cX13_sums 53 = .ok (.iadd, 1) := by decide +kernel
theorem dX13_sums_54 : decode cX13_sums 54 = .ok (.istore 4, 2) := by decide +kernel
theorem dX13_sums_56 : decode cX13_sums 56 = .ok (.aload_n 0, 1) := by decide +kernel
theorem dX13_sums_57 : decode cX13_sums 57 = .ok (.iload_n 1, 1) := by decide +kernel
theorem dX13_sums_58 : decode cX13_sums 58 = .ok (.iload_n 2, 1) := by decide +kernel
theorem dX13_sums_59 : decode cX13_sums 59 = .ok (.invokevirtual 289, 3) := by decide +kernel
theorem dX13_sums_62 : decode cX13_sums 62 = .ok (.lstore 5, 2) := by decide +kernel
theorem dX13_sums_64 : decode cX13_sums 64 = .ok (.goto (-25), 3) := by decide +kernel
theorem dX13_sums_67 : decode cX13_sums 67 = .ok (.iload 4, 2) := by decide +kernel
theorem dX13_sums_69 : decode cX13_sums 69 = .ok (.i2l, 1) := by decide +kernel
theorem dX13_sums_70 : decode cX13_sums 70 = .ok (.lreturn, 1) := by decide +kernel
theorem dX13_sets_0 : decode cX13_sets 0 = .ok (.iconst 0, 1) := by decide +kernel
theorem dX13_sets_1 : decode cX13_sets 1 = .ok (.istore 4, 2) := by decide +kernel
theorem dX13_sets_3 : decode cX13_sets 3 = .ok (.iconst 0, 1) := by decide +kernel
theorem dX13_sets_4 : decode cX13_sets 4 = .ok (.istore 5, 2) := by decide +kernel
theorem dX13_sets_6 : decode cX13_sets 6 = .ok (.aload_n 0, 1) := by decide +kernel
theorem dX13_sets_7 : decode cX13_sets 7 = .ok (.iload_n 1, 1) := by decide +kernel
theorem dX13_sets_8 : decode cX13_sets 8 = .ok (.iload_n 2, 1) := by decide +kernel
theorem dX13_sets_9 : decode cX13_sets 9 = .ok (.invokevirtual 289, 3) := by decide +kernel
theorem dX13_sets_12 : decode cX13_sets 12 = .ok (.lstore 6, 2) := by decide +kernel
theorem dX13_sets_14 : decode cX13_sets 14 = .ok (.lload 6, 2) := by decide +kernel
theorem dX13_sets_16 : decode cX13_sets 16 = .ok (.ldc2_w 267, 3) := by decide +kernel
theorem dX13_sets_19 : decode cX13_sets 19 = .ok (.lcmp, 1) := by decide +kernel
theorem dX13_sets_20 : decode cX13_sets 20 = .ok (.ifCond .eq 22, 3) := by decide +kernel
theorem dX13_sets_23 : decode cX13_sets 23 = .ok (.iconst 1, 1) := by decide +kernel
theorem dX13_sets_24 : decode cX13_sets 24 = .ok (.istore 4, 2) := by decide +kernel
theorem dX13_sets_26 : decode cX13_sets 26 = .ok (.lload 6, 2) := by decide +kernel
theorem dX13_sets_28 : decode cX13_sets 28 = .ok (.l2i, 1) := by decide +kernel
theorem dX13_sets_29 : decode cX13_sets 29 = .ok (.istore 5, 2) := by decide +kernel
theorem dX13_sets_31 : decode cX13_sets 31 = .ok (.aload_n 0, 1) := by decide +kernel
theorem dX13_sets_32 : decode cX13_sets 32 = .ok (.iload_n 1, 1) := by decide +kernel
theorem dX13_sets_33 : decode cX13_sets 33 = .ok (.iload_n 2, 1) := by decide +kernel
theorem dX13_sets_34 : decode cX13_sets 34 = .ok (.invokevirtual 289, 3) := by decide +kernel
theorem dX13_sets_37 : decode cX13_sets 37 = .ok (.lstore 6, 2) := by decide +kernel
theorem dX13_sets_39 : decode cX13_sets 39 = .ok (.goto (-25), 3) := by decide +kernel
theorem dX13_sets_42 : decode cX13_sets 42 = .ok (.iload 4, 2) := by decide +kernel
theorem dX13_sets_44 : decode cX13_sets 44 = .ok (.ifCond .eq 23, 3) := by decide +kernel
theorem dX13_sets_47 : decode cX13_sets 47 = .ok (.aload_n 0, 1) := by decide +kernel
theorem dX13_sets_48 : decode cX13_sets 48 = .ok (.getfield 79, 3) := by decide +kernel
theorem dX13_sets_51 : decode cX13_sets 51 = .ok (.iload_n 3, 1) := by decide +kernel
theorem dX13_sets_52 : decode cX13_sets 52 = .ok (.iload 5, 2) := by decide +kernel
theorem dX13_sets_54 : decode cX13_sets 54 = .ok (.iastore, 1) := by decide +kernel
theorem dX13_sets_55 : decode cX13_sets 55 = .ok (.aload_n 0, 1) := by decide +kernel
theorem dX13_sets_56 : decode cX13_sets 56 = .ok (.getfield 108, 3) := by decide +kernel
theorem dX13_sets_59 : decode cX13_sets 59 = .ok (.bipush 6, 2) := by decide +kernel
theorem dX13_sets_61 : decode cX13_sets 61 = .ok (.iload_n 1, 1) := by decide +kernel
theorem dX13_sets_62 : decode cX13_sets 62 = .ok (.imul, 1) := by decide +kernel
theorem dX13_sets_63 : decode cX13_sets 63 = .ok (.iload_n 2, 1) := by decide +kernel
theorem dX13_sets_64 : decode cX13_sets 64 = .ok (.iadd, 1) := by decide +kernel
theorem dX13_sets_65 : decode cX13_sets 65 = .ok (.iconst 0, 1) := by decide +kernel
theorem dX13_sets_66 : decode cX13_sets 66 = .ok (.iastore, 1) := by decide +kernel
theorem dX13_sets_67 : decode cX13_sets 67 = .ok (.ldc2_w 267, 3) := by decide +kernel
theorem dX13_sets_70 : decode cX13_sets 70 = .ok (.lreturn, 1) := by decide +kernel
theorem dX13_within_0 : decode cX13_within 0 = .ok (.bipush 6, 2) := by decide +kernel
theorem dX13_within_2 : decode cX13_within 2 = .ok (.iload_n 1, 1) := by decide +kernel
theorem dX13_within_3 : decode cX13_within 3 = .ok (.imul, 1) := by decide +kernel
theorem dX13_within_4 : decode cX13_within 4 = .ok (.istore 4, 2) := by decide +kernel
theorem dX13_within_6 : decode cX13_within 6 = .ok (.iload_n 1, 1) := by decide +kernel
theorem dX13_within_7 : decode cX13_within 7 = .ok (.bipush 24, 2) := by decide +kernel
theorem dX13_within_9 : decode cX13_within 9 = .ok (.if_icmp .lt 7, 3) := by decide +kernel
theorem dX13_within_12 : decode cX13_within 12 = .ok (.iconst 0, 1) := by decide +kernel
theorem dX13_within_13 : decode cX13_within 13 = .ok (.goto 6, 3) := by decide +kernel
theorem dX13_within_16 : decode cX13_within 16 = .ok (.iload_n 1, 1) := by decide +kernel
theorem dX13_within_17 : decode cX13_within 17 = .ok (.iconst 1, 1) := by decide +kernel
theorem dX13_within_18 : decode cX13_within 18 = .ok (.iadd, 1) := by decide +kernel
theorem dX13_within_19 : decode cX13_within 19 = .ok (.istore 5, 2) := by decide +kernel
theorem dX13_within_21 : decode cX13_within 21 = .ok (.aload_n 0, 1) := by decide +kernel
theorem dX13_within_22 : decode cX13_within 22 = .ok (.getfield 101, 3) := by decide +kernel
theorem dX13_within_25 : decode cX13_within 25 = .ok (.iload 4, 2) := by decide +kernel
theorem dX13_within_27 : decode cX13_within 27 = .ok (.iaload, 1) := by decide +kernel
theorem dX13_within_28 : decode cX13_within 28 = .ok (.ifCond .ne 153, 3) := by decide +kernel
theorem dX13_within_31 : decode cX13_within 31 = .ok (.aload_n 0, 1) := by decide +kernel
theorem dX13_within_32 : decode cX13_within 32 = .ok (.getfield 61, 3) := by decide +kernel
theorem dX13_within_35 : decode cX13_within 35 = .ok (.iload_n 2, 1) := by decide +kernel
theorem dX13_within_36 : decode cX13_within 36 = .ok (.iaload, 1) := by decide +kernel
theorem dX13_within_37 : decode cX13_within 37 = .ok (.bipush 14, 2) := by decide +kernel
theorem dX13_within_39 : decode cX13_within 39 = .ok (.if_icmp .ne 32, 3) := by decide +kernel
theorem dX13_within_42 : decode cX13_within 42 = .ok (.aload_n 0, 1) := by decide +kernel
theorem dX13_within_43 : decode cX13_within 43 = .ok (.getfield 108, 3) := by decide +kernel
theorem dX13_within_46 : decode cX13_within 46 = .ok (.iload 4, 2) := by decide +kernel
theorem dX13_within_48 : decode cX13_within 48 = .ok (.aload_n 0, 1) := by decide +kernel
theorem dX13_within_49 : decode cX13_within 49 = .ok (.aload_n 0, 1) := by decide +kernel
theorem dX13_within_50 : decode cX13_within 50 = .ok (.getfield 64, 3) := by decide +kernel
theorem dX13_within_53 : decode cX13_within 53 = .ok (.iload_n 2, 1) := by decide +kernel
theorem dX13_within_54 : decode cX13_within 54 = .ok (.iaload, 1) := by decide +kernel
theorem dX13_within_55 : decode cX13_within 55 = .ok (.aload_n 0, 1) := by decide +kernel
theorem dX13_within_56 : decode cX13_within 56 = .ok (.getfield 95, 3) := by decide +kernel
theorem dX13_within_59 : decode cX13_within 59 = .ok (.iload_n 1, 1) := by decide +kernel
theorem dX13_within_60 : decode cX13_within 60 = .ok (.iaload, 1) := by decide +kernel
theorem dX13_within_61 : decode cX13_within 61 = .ok (.iload 5, 2) := by decide +kernel
theorem dX13_within_63 : decode cX13_within 63 = .ok (.iload_n 1, 1) := by decide +kernel
theorem dX13_within_64 : decode cX13_within 64 = .ok (.invokevirtual 305, 3) := by decide +kernel
theorem dX13_within_67 : decode cX13_within 67 = .ok (.iastore, 1) := by decide +kernel
theorem dX13_within_68 : decode cX13_within 68 = .ok (.goto 113, 3) := by decide +kernel
theorem dX13_within_71 : decode cX13_within 71 = .ok (.aload_n 0, 1) := by decide +kernel
theorem dX13_within_72 : decode cX13_within 72 = .ok (.getfield 82, 3) := by decide +kernel
theorem dX13_within_75 : decode cX13_within 75 = .ok (.aload_n 0, 1) := by decide +kernel
theorem dX13_within_76 : decode cX13_within 76 = .ok (.getfield 61, 3) := by decide +kernel
theorem dX13_within_79 : decode cX13_within 79 = .ok (.iload_n 2, 1) := by decide +kernel
theorem dX13_within_80 : decode cX13_within 80 = .ok (.iaload, 1) := by decide +kernel
theorem dX13_within_81 : decode cX13_within 81 = .ok (.bipush 11, 2) := by decide +kernel
theorem dX13_within_83 : decode cX13_within 83 = .ok (.isub, 1) := by decide +kernel
theorem dX13_within_84 : decode cX13_within 84 = .ok (.iaload, 1) := by decide +kernel
theorem dX13_within_85 : decode cX13_within 85 = .ok (.ifCond .lt 11, 3) := by decide +kernel
theorem dX13_within_88 : decode cX13_within 88 = .ok (.aload_n 0, 1) := by decide +kernel
theorem dX13_within_89 : decode cX13_within 89 = .ok (.getfield 309, 3) := by decide +kernel
theorem dX13_within_92 : decode cX13_within 92 = .ok (.iconst 4, 1) := by decide +kernel
theorem dX13_within_93 : decode cX13_within 93 = .ok (.if_icmp .ne 36, 3) := by decide +kernel
theorem dX13_within_96 : decode cX13_within 96 = .ok (.aload_n 0, 1) := by decide +kernel
theorem dX13_within_97 : decode cX13_within 97 = .ok (.getfield 108, 3) := by decide +kernel
theorem dX13_within_100 : decode cX13_within 100 = .ok (.iload 4, 2) := by decide +kernel
theorem dX13_within_102 : decode cX13_within 102 = .ok (.aload_n 0, 1) := by decide +kernel
theorem dX13_within_103 : decode cX13_within 103 = .ok (.getfield 82, 3) := by decide +kernel
theorem dX13_within_106 : decode cX13_within 106 = .ok (.aload_n 0, 1) := by decide +kernel
theorem dX13_within_107 : decode cX13_within 107 = .ok (.getfield 61, 3) := by decide +kernel
theorem dX13_within_110 : decode cX13_within 110 = .ok (.iload_n 2, 1) := by decide +kernel
theorem dX13_within_111 : decode cX13_within 111 = .ok (.iaload, 1) := by decide +kernel
theorem dX13_within_112 : decode cX13_within 112 = .ok (.bipush 11, 2) := by decide +kernel
theorem dX13_within_114 : decode cX13_within 114 = .ok (.isub, 1) := by decide +kernel
theorem dX13_within_115 : decode cX13_within 115 = .ok (.iaload, 1) := by decide +kernel
theorem dX13_within_116 : decode cX13_within 116 = .ok (.ifCond .ge 7, 3) := by decide +kernel
theorem dX13_within_119 : decode cX13_within 119 = .ok (.iconst 1, 1) := by decide +kernel
theorem dX13_within_120 : decode cX13_within 120 = .ok (.goto 5, 3) := by decide +kernel
theorem dX13_within_123 : decode cX13_within 123 = .ok (.bipush 9, 2) := by decide +kernel
theorem dX13_within_125 : decode cX13_within 125 = .ok (.iastore, 1) := by decide +kernel
theorem dX13_within_126 : decode cX13_within 126 = .ok (.goto 55, 3) := by decide +kernel
theorem dX13_within_129 : decode cX13_within 129 = .ok (.aload_n 0, 1) := by decide +kernel
theorem dX13_within_130 : decode cX13_within 130 = .ok (.dup, 1) := by decide +kernel
theorem dX13_within_131 : decode cX13_within 131 = .ok (.getfield 309, 3) := by decide +kernel
theorem dX13_within_134 : decode cX13_within 134 = .ok (.iconst 1, 1) := by decide +kernel
theorem dX13_within_135 : decode cX13_within 135 = .ok (.iadd, 1) := by decide +kernel
theorem dX13_within_136 : decode cX13_within 136 = .ok (.putfield 309, 3) := by decide +kernel
theorem dX13_within_139 : decode cX13_within 139 = .ok (.aload_n 0, 1) := by decide +kernel
theorem dX13_within_140 : decode cX13_within 140 = .ok (.getfield 108, 3) := by decide +kernel
theorem dX13_within_143 : decode cX13_within 143 = .ok (.iload 4, 2) := by decide +kernel
theorem dX13_within_145 : decode cX13_within 145 = .ok (.aload_n 0, 1) := by decide +kernel
theorem dX13_within_146 : decode cX13_within 146 = .ok (.bipush 60, 2) := by decide +kernel
theorem dX13_within_148 : decode cX13_within 148 = .ok (.aload_n 0, 1) := by decide +kernel
theorem dX13_within_149 : decode cX13_within 149 = .ok (.getfield 82, 3) := by decide +kernel
theorem dX13_within_152 : decode cX13_within 152 = .ok (.aload_n 0, 1) := by decide +kernel
theorem dX13_within_153 : decode cX13_within 153 = .ok (.getfield 61, 3) := by decide +kernel
theorem dX13_within_156 : decode cX13_within 156 = .ok (.iload_n 2, 1) := by decide +kernel
theorem dX13_within_157 : decode cX13_within 157 = .ok (.iaload, 1) := by decide +kernel
theorem dX13_within_158 : decode cX13_within 158 = .ok (.bipush 11, 2) := by decide +kernel
theorem dX13_within_160 : decode cX13_within 160 = .ok (.isub, 1) := by decide +kernel
theorem dX13_within_161 : decode cX13_within 161 = .ok (.iaload, 1) := by decide +kernel
theorem dX13_within_162 : decode cX13_within 162 = .ok (.imul, 1) := by decide +kernel
theorem dX13_within_163 : decode cX13_within 163 = .ok (.iload_n 3, 1) := by decide +kernel
theorem dX13_within_164 : decode cX13_within 164 = .ok (.iload 5, 2) := by decide +kernel
theorem dX13_within_166 : decode cX13_within 166 = .ok (.iload_n 1, 1) := by decide +kernel
theorem dX13_within_167 : decode cX13_within 167 = .ok (.invokevirtual 305, 3) := by decide +kernel
theorem dX13_within_170 : decode cX13_within 170 = .ok (.iastore, 1) := by decide +kernel
theorem dX13_within_171 : decode cX13_within 171 = .ok (.aload_n 0, 1) := by decide +kernel
theorem dX13_within_172 : decode cX13_within 172 = .ok (.dup, 1) := by decide +kernel
theorem dX13_within_173 : decode cX13_within 173 = .ok (.getfield 309, 3) := by decide +kernel
theorem dX13_within_176 : decode cX13_within 176 = .ok (.iconst 1, 1) := by decide +kernel
theorem dX13_within_177 : decode cX13_within 177 = .ok (.isub, 1) := by decide +kernel
theorem dX13_within_178 : decode cX13_within 178 = .ok (.putfield 309, 3) := by decide +kernel
theorem dX13_within_181 : decode cX13_within 181 = .ok (.aload_n 0, 1) := by decide +kernel
theorem dX13_within_182 : decode cX13_within 182 = .ok (.getfield 101, 3) := by decide +kernel
theorem dX13_within_185 : decode cX13_within 185 = .ok (.iload 4, 2) := by decide +kernel
theorem dX13_within_187 : decode cX13_within 187 = .ok (.dup2, 1) := by decide +kernel
theorem dX13_within_188 : decode cX13_within 188 = .ok (.iaload, 1) := by decide +kernel
theorem dX13_within_189 : decode cX13_within 189 = .ok (.iconst 1, 1) := by decide +kernel
theorem dX13_within_190 : decode cX13_within 190 = .ok (.iadd, 1) := by decide +kernel
theorem dX13_within_191 : decode cX13_within 191 = .ok (.iastore, 1) := by decide +kernel
theorem dX13_within_192 : decode cX13_within 192 = .ok (.aload_n 0, 1) := by decide +kernel
theorem dX13_within_193 : decode cX13_within 193 = .ok (.getfield 101, 3) := by decide +kernel
theorem dX13_within_196 : decode cX13_within 196 = .ok (.iload 4, 2) := by decide +kernel
theorem dX13_within_198 : decode cX13_within 198 = .ok (.iaload, 1) := by decide +kernel
theorem dX13_within_199 : decode cX13_within 199 = .ok (.aload_n 0, 1) := by decide +kernel
theorem dX13_within_200 : decode cX13_within 200 = .ok (.getfield 114, 3) := by decide +kernel
theorem dX13_within_203 : decode cX13_within 203 = .ok (.iload_n 1, 1) := by decide +kernel
theorem dX13_within_204 : decode cX13_within 204 = .ok (.iaload, 1) := by decide +kernel
theorem dX13_within_205 : decode cX13_within 205 = .ok (.if_icmp .gt 26, 3) := by decide +kernel
theorem dX13_within_208 : decode cX13_within 208 = .ok (.aload_n 0, 1) := by decide +kernel
theorem dX13_within_209 : decode cX13_within 209 = .ok (.getfield 111, 3) := by decide +kernel
theorem dX13_within_212 : decode cX13_within 212 = .ok (.bipush 60, 2) := by decide +kernel
theorem dX13_within_214 : decode cX13_within 214 = .ok (.iload_n 1, 1) := by decide +kernel
theorem dX13_within_215 : decode cX13_within 215 = .ok (.imul, 1) := by decide +kernel
theorem dX13_within_216 : decode cX13_within 216 = .ok (.aload_n 0, 1) := by decide +kernel
theorem dX13_within_217 : decode cX13_within 217 = .ok (.getfield 101, 3) := by decide +kernel
theorem dX13_within_220 : decode cX13_within 220 = .ok (.iload 4, 2) := by decide +kernel
theorem dX13_within_222 : decode cX13_within 222 = .ok (.iaload, 1) := by decide +kernel
theorem dX13_within_223 : decode cX13_within 223 = .ok (.iadd, 1) := by decide +kernel
theorem dX13_within_224 : decode cX13_within 224 = .ok (.iconst 1, 1) := by decide +kernel
theorem dX13_within_225 : decode cX13_within 225 = .ok (.isub, 1) := by decide +kernel
theorem dX13_within_226 : decode cX13_within 226 = .ok (.iaload, 1) := by decide +kernel
theorem dX13_within_227 : decode cX13_within 227 = .ok (.i2l, 1) := by decide +kernel
theorem dX13_within_228 : decode cX13_within 228 = .ok (.goto 6, 3) := by decide +kernel
theorem dX13_within_231 : decode cX13_within 231 = .ok (.ldc2_w 267, 3) := by decide +kernel
theorem dX13_within_234 : decode cX13_within 234 = .ok (.lreturn, 1) := by decide +kernel
theorem dX13_isOn_0 : decode cX13_isOn 0 = .ok (.iload_n 0, 1) := by decide +kernel
theorem dX13_isOn_1 : decode cX13_isOn 1 = .ok (.bipush 59, 2) := by decide +kernel
theorem dX13_isOn_3 : decode cX13_isOn 3 = .ok (.if_icmp .eq 26, 3) := by decide +kernel
theorem dX13_isOn_6 : decode cX13_isOn 6 = .ok (.iload_n 0, 1) := by decide +kernel
theorem dX13_isOn_7 : decode cX13_isOn 7 = .ok (.bipush 38, 2) := by decide +kernel
theorem dX13_isOn_9 : decode cX13_isOn 9 = .ok (.if_icmp .ne 7, 3) := by decide +kernel
theorem dX13_isOn_12 : decode cX13_isOn 12 = .ok (.iconst 1, 1) := by decide +kernel
theorem dX13_isOn_13 : decode cX13_isOn 13 = .ok (.goto 4, 3) := by decide +kernel
theorem dX13_isOn_16 : decode cX13_isOn 16 = .ok (.iconst 0, 1) := by decide +kernel
theorem dX13_isOn_17 : decode cX13_isOn 17 = .ok (.iload_n 1, 1) := by decide +kernel
theorem dX13_isOn_18 : decode cX13_isOn 18 = .ok (.ifCond .ne 7, 3) := by decide +kernel
theorem dX13_isOn_21 : decode cX13_isOn 21 = .ok (.iconst 1, 1) := by decide +kernel
theorem dX13_isOn_22 : decode cX13_isOn 22 = .ok (.goto 4, 3) := by decide +kernel
theorem dX13_isOn_25 : decode cX13_isOn 25 = .ok (.iconst 0, 1) := by decide +kernel
theorem dX13_isOn_26 : decode cX13_isOn 26 = .ok (.if_icmp .ne 7, 3) := by decide +kernel
theorem dX13_isOn_29 : decode cX13_isOn 29 = .ok (.iconst 1, 1) := by decide +kernel
theorem dX13_isOn_30 : decode cX13_isOn 30 = .ok (.goto 4, 3) := by decide +kernel
theorem dX13_isOn_33 : decode cX13_isOn 33 = .ok (.iconst 0, 1) := by decide +kernel
theorem dX13_isOn_34 : decode cX13_isOn 34 = .ok (.ireturn, 1) := by decide +kernel
theorem dX13_goes_0 : decode cX13_goes 0 = .ok (.iconst 0, 1) := by decide +kernel
theorem dX13_goes_1 : decode cX13_goes 1 = .ok (.istore 5, 2) := by decide +kernel
theorem dX13_goes_3 : decode cX13_goes 3 = .ok (.aload_n 0, 1) := by decide +kernel
theorem dX13_goes_4 : decode cX13_goes 4 = .ok (.getfield 45, 3) := by decide +kernel
theorem dX13_goes_7 : decode cX13_goes 7 = .ok (.iload_n 1, 1) := by decide +kernel
theorem dX13_goes_8 : decode cX13_goes 8 = .ok (.iaload, 1) := by decide +kernel
theorem dX13_goes_9 : decode cX13_goes 9 = .ok (.istore 6, 2) := by decide +kernel
theorem dX13_goes_11 : decode cX13_goes 11 = .ok (.iload 6, 2) := by decide +kernel
theorem dX13_goes_13 : decode cX13_goes 13 = .ok (.ifCond .lt 54, 3) := by decide +kernel
theorem dX13_goes_16 : decode cX13_goes 16 = .ok (.aload_n 0, 1) := by decide +kernel
theorem dX13_goes_17 : decode cX13_goes 17 = .ok (.getfield 52, 3) := by decide +kernel
theorem dX13_goes_20 : decode cX13_goes 20 = .ok (.iload 6, 2) := by decide +kernel
theorem dX13_goes_22 : decode cX13_goes 22 = .ok (.iaload, 1) := by decide +kernel
theorem dX13_goes_23 : decode cX13_goes 23 = .ok (.iload 5, 2) := by decide +kernel
theorem dX13_goes_25 : decode cX13_goes 25 = .ok (.invokestatic 312, 3) := by decide +kernel
theorem dX13_goes_28 : decode cX13_goes 28 = .ok (.ifCond .eq 27, 3) := by decide +kernel
theorem dX13_goes_31 : decode cX13_goes 31 = .ok (.aload_n 0, 1) := by decide +kernel
theorem dX13_goes_32 : decode cX13_goes 32 = .ok (.getfield 315, 3) := by decide +kernel
theorem dX13_goes_35 : decode cX13_goes 35 = .ok (.ifCond .ne 8, 3) := by decide +kernel
theorem dX13_goes_38 : decode cX13_goes 38 = .ok (.bipush 8, 2) := by decide +kernel
theorem dX13_goes_40 : decode cX13_goes 40 = .ok (.goto 13, 3) := by decide +kernel
theorem dX13_goes_43 : decode cX13_goes 43 = .ok (.aload_n 0, 1) := by decide +kernel
theorem dX13_goes_44 : decode cX13_goes 44 = .ok (.iload 6, 2) := by decide +kernel
theorem dX13_goes_46 : decode cX13_goes 46 = .ok (.iload_n 2, 1) := by decide +kernel
theorem dX13_goes_47 : decode cX13_goes 47 = .ok (.iload_n 3, 1) := by decide +kernel
theorem dX13_goes_48 : decode cX13_goes 48 = .ok (.iload 4, 2) := by decide +kernel
theorem dX13_goes_50 : decode cX13_goes 50 = .ok (.invokevirtual 318, 3) := by decide +kernel
theorem dX13_goes_53 : decode cX13_goes 53 = .ok (.istore 5, 2) := by decide +kernel
theorem dX13_goes_55 : decode cX13_goes 55 = .ok (.aload_n 0, 1) := by decide +kernel
theorem dX13_goes_56 : decode cX13_goes 56 = .ok (.getfield 49, 3) := by decide +kernel
theorem dX13_goes_59 : decode cX13_goes 59 = .ok (.iload 6, 2) := by decide +kernel
theorem dX13_goes_61 : decode cX13_goes 61 = .ok (.iaload, 1) := by decide +kernel
theorem dX13_goes_62 : decode cX13_goes 62 = .ok (.istore 6, 2) := by decide +kernel
theorem dX13_goes_64 : decode cX13_goes 64 = .ok (.goto (-53), 3) := by decide +kernel
theorem dX13_goes_67 : decode cX13_goes 67 = .ok (.iload 5, 2) := by decide +kernel
theorem dX13_goes_69 : decode cX13_goes 69 = .ok (.ireturn, 1) := by decide +kernel
theorem dX13_pipeGoes_0 : decode cX13_pipeGoes 0 = .ok (.aload_n 0, 1) := by decide +kernel
theorem dX13_pipeGoes_1 : decode cX13_pipeGoes 1 = .ok (.dup, 1) := by decide +kernel
theorem dX13_pipeGoes_2 : decode cX13_pipeGoes 2 = .ok (.getfield 315, 3) := by decide +kernel
theorem dX13_pipeGoes_5 : decode cX13_pipeGoes 5 = .ok (.iconst 1, 1) := by decide +kernel
theorem dX13_pipeGoes_6 : decode cX13_pipeGoes 6 = .ok (.isub, 1) := by decide +kernel
theorem dX13_pipeGoes_7 : decode cX13_pipeGoes 7 = .ok (.putfield 315, 3) := by decide +kernel
theorem dX13_pipeGoes_10 : decode cX13_pipeGoes 10 = .ok (.aload_n 0, 1) := by decide +kernel
theorem dX13_pipeGoes_11 : decode cX13_pipeGoes 11 = .ok (.iload_n 3, 1) := by decide +kernel
theorem dX13_pipeGoes_12 : decode cX13_pipeGoes 12 = .ok (.iload_n 1, 1) := by decide +kernel
theorem dX13_pipeGoes_13 : decode cX13_pipeGoes 13 = .ok (.iload_n 2, 1) := by decide +kernel
theorem dX13_pipeGoes_14 : decode cX13_pipeGoes 14 = .ok (.invokevirtual 321, 3) := by decide +kernel
theorem dX13_pipeGoes_17 : decode cX13_pipeGoes 17 = .ok (.aload_n 0, 1) := by decide +kernel
theorem dX13_pipeGoes_18 : decode cX13_pipeGoes 18 = .ok (.getfield 58, 3) := by decide +kernel
theorem dX13_pipeGoes_21 : decode cX13_pipeGoes 21 = .ok (.iload_n 1, 1) := by decide +kernel
theorem dX13_pipeGoes_22 : decode cX13_pipeGoes 22 = .ok (.iaload, 1) := by decide +kernel
theorem dX13_pipeGoes_23 : decode cX13_pipeGoes 23 = .ok (.iconst 1, 1) := by decide +kernel
theorem dX13_pipeGoes_24 : decode cX13_pipeGoes 24 = .ok (.isub, 1) := by decide +kernel
theorem dX13_pipeGoes_25 : decode cX13_pipeGoes 25 = .ok (.istore 5, 2) := by decide +kernel
theorem dX13_pipeGoes_27 : decode cX13_pipeGoes 27 = .ok (.aload_n 0, 1) := by decide +kernel
theorem dX13_pipeGoes_28 : decode cX13_pipeGoes 28 = .ok (.iload_n 3, 1) := by decide +kernel
theorem dX13_pipeGoes_29 : decode cX13_pipeGoes 29 = .ok (.iload 5, 2) := by decide +kernel
theorem dX13_pipeGoes_31 : decode cX13_pipeGoes 31 = .ok (.invokevirtual 275, 3) := by decide +kernel
theorem dX13_pipeGoes_34 : decode cX13_pipeGoes 34 = .ok (.lstore 6, 2) := by decide +kernel
theorem dX13_pipeGoes_36 : decode cX13_pipeGoes 36 = .ok (.lload 6, 2) := by decide +kernel
theorem dX13_pipeGoes_38 : decode cX13_pipeGoes 38 = .ok (.ldc2_w 267, 3) := by decide +kernel
theorem dX13_pipeGoes_41 : decode cX13_pipeGoes 41 = .ok (.lcmp, 1) := by decide +kernel
theorem dX13_pipeGoes_42 : decode cX13_pipeGoes 42 = .ok (.ifCond .eq 24, 3) := by decide +kernel
theorem dX13_pipeGoes_45 : decode cX13_pipeGoes 45 = .ok (.aload_n 0, 1) := by decide +kernel
theorem dX13_pipeGoes_46 : decode cX13_pipeGoes 46 = .ok (.iload 4, 2) := by decide +kernel
theorem dX13_pipeGoes_48 : decode cX13_pipeGoes 48 = .ok (.lload 6, 2) := by decide +kernel
theorem dX13_pipeGoes_50 : decode cX13_pipeGoes 50 = .ok (.l2i, 1) := by decide +kernel
theorem dX13_pipeGoes_51 : decode cX13_pipeGoes 51 = .ok (.invokevirtual 325, 3) := by decide +kernel
theorem dX13_pipeGoes_54 : decode cX13_pipeGoes 54 = .ok (.aload_n 0, 1) := by decide +kernel
theorem dX13_pipeGoes_55 : decode cX13_pipeGoes 55 = .ok (.iload_n 3, 1) := by decide +kernel
theorem dX13_pipeGoes_56 : decode cX13_pipeGoes 56 = .ok (.iload 5, 2) := by decide +kernel
theorem dX13_pipeGoes_58 : decode cX13_pipeGoes 58 = .ok (.invokevirtual 275, 3) := by decide +kernel
theorem dX13_pipeGoes_61 : decode cX13_pipeGoes 61 = .ok (.lstore 6, 2) := by decide +kernel
theorem dX13_pipeGoes_63 : decode cX13_pipeGoes 63 = .ok (.goto (-27), 3) := by decide +kernel
theorem dX13_pipeGoes_66 : decode cX13_pipeGoes 66 = .ok (.aload_n 0, 1) := by decide +kernel
theorem dX13_pipeGoes_67 : decode cX13_pipeGoes 67 = .ok (.getfield 108, 3) := by decide +kernel
theorem dX13_pipeGoes_70 : decode cX13_pipeGoes 70 = .ok (.bipush 6, 2) := by decide +kernel
theorem dX13_pipeGoes_72 : decode cX13_pipeGoes 72 = .ok (.iload_n 3, 1) := by decide +kernel
theorem dX13_pipeGoes_73 : decode cX13_pipeGoes 73 = .ok (.imul, 1) := by decide +kernel
theorem dX13_pipeGoes_74 : decode cX13_pipeGoes 74 = .ok (.iload 5, 2) := by decide +kernel
theorem dX13_pipeGoes_76 : decode cX13_pipeGoes 76 = .ok (.iadd, 1) := by decide +kernel
theorem dX13_pipeGoes_77 : decode cX13_pipeGoes 77 = .ok (.iaload, 1) := by decide +kernel
theorem dX13_pipeGoes_78 : decode cX13_pipeGoes 78 = .ok (.ireturn, 1) := by decide +kernel
theorem dX13_runs_0 : decode cX13_runs 0 = .ok (.aload_n 0, 1) := by decide +kernel
theorem dX13_runs_1 : decode cX13_runs 1 = .ok (.bipush 60, 2) := by decide +kernel
theorem dX13_runs_3 : decode cX13_runs 3 = .ok (.putfield 315, 3) := by decide +kernel
theorem dX13_runs_6 : decode cX13_runs 6 = .ok (.aload_n 0, 1) := by decide +kernel
theorem dX13_runs_7 : decode cX13_runs 7 = .ok (.iconst 0, 1) := by decide +kernel
theorem dX13_runs_8 : decode cX13_runs 8 = .ok (.putfield 309, 3) := by decide +kernel
theorem dX13_runs_11 : decode cX13_runs 11 = .ok (.aload_n 0, 1) := by decide +kernel
theorem dX13_runs_12 : decode cX13_runs 12 = .ok (.iconst 0, 1) := by decide +kernel
theorem dX13_runs_13 : decode cX13_runs 13 = .ok (.putfield 279, 3) := by decide +kernel
theorem dX13_runs_16 : decode cX13_runs 16 = .ok (.aload_n 0, 1) := by decide +kernel
theorem dX13_runs_17 : decode cX13_runs 17 = .ok (.iconst 0, 1) := by decide +kernel
theorem dX13_runs_18 : decode cX13_runs 18 = .ok (.putfield 269, 3) := by decide +kernel
theorem dX13_runs_21 : decode cX13_runs 21 = .ok (.aload_n 0, 1) := by decide +kernel
theorem dX13_runs_22 : decode cX13_runs 22 = .ok (.aload_n 0, 1) := by decide +kernel
theorem dX13_runs_23 : decode cX13_runs 23 = .ok (.bipush 60, 2) := by decide +kernel
theorem dX13_runs_25 : decode cX13_runs 25 = .ok (.iload_n 1, 1) := by decide +kernel
theorem dX13_runs_26 : decode cX13_runs 26 = .ok (.imul, 1) := by decide +kernel
theorem dX13_runs_27 : decode cX13_runs 27 = .ok (.iconst 0, 1) := by decide +kernel
theorem dX13_runs_28 : decode cX13_runs 28 = .ok (.iconst 0, 1) := by decide +kernel
theorem dX13_runs_29 : decode cX13_runs 29 = .ok (.iconst (-1), 1) := by decide +kernel
theorem dX13_runs_30 : decode cX13_runs 30 = .ok (.invokevirtual 305, 3) := by decide +kernel
theorem dX13_runs_33 : decode cX13_runs 33 = .ok (.putfield 329, 3) := by decide +kernel
theorem dX13_runs_36 : decode cX13_runs 36 = .ok (.aload_n 0, 1) := by decide +kernel
theorem dX13_runs_37 : decode cX13_runs 37 = .ok (.getfield 329, 3) := by decide +kernel
theorem dX13_runs_40 : decode cX13_runs 40 = .ok (.ifCond .eq 25, 3) := by decide +kernel
theorem dX13_runs_43 : decode cX13_runs 43 = .ok (.aload_n 0, 1) := by decide +kernel
theorem dX13_runs_44 : decode cX13_runs 44 = .ok (.getfield 85, 3) := by decide +kernel
theorem dX13_runs_47 : decode cX13_runs 47 = .ok (.ifCond .lt 18, 3) := by decide +kernel
theorem dX13_runs_50 : decode cX13_runs 50 = .ok (.aload_n 0, 1) := by decide +kernel
theorem dX13_runs_51 : decode cX13_runs 51 = .ok (.bipush 60, 2) := by decide +kernel
theorem dX13_runs_53 : decode cX13_runs 53 = .ok (.aload_n 0, 1) := by decide +kernel
theorem dX13_runs_54 : decode cX13_runs 54 = .ok (.getfield 85, 3) := by decide +kernel
theorem dX13_runs_57 : decode cX13_runs 57 = .ok (.imul, 1) := by decide +kernel
theorem dX13_runs_58 : decode cX13_runs 58 = .ok (.iconst 0, 1) := by decide +kernel
theorem dX13_runs_59 : decode cX13_runs 59 = .ok (.iconst 0, 1) := by decide +kernel
theorem dX13_runs_60 : decode cX13_runs 60 = .ok (.iconst (-1), 1) := by decide +kernel
theorem dX13_runs_61 : decode cX13_runs 61 = .ok (.invokevirtual 305, 3) := by decide +kernel
theorem dX13_runs_64 : decode cX13_runs 64 = .ok (.istore_n 2, 1) := by decide +kernel
theorem dX13_runs_65 : decode cX13_runs 65 = .ok (.return_, 1) := by decide +kernel
theorem dX13_run_0 : decode cX13_run 0 = .ok (.aload_n 0, 1) := by decide +kernel
theorem dX13_run_1 : decode cX13_run 1 = .ok (.iload_n 1, 1) := by decide +kernel
theorem dX13_run_2 : decode cX13_run 2 = .ok (.invokevirtual 260, 3) := by decide +kernel
theorem dX13_run_5 : decode cX13_run 5 = .ok (.ifCond .ne 5, 3) := by decide +kernel
theorem dX13_run_8 : decode cX13_run 8 = .ok (.iconst (-1), 1) := by decide +kernel
theorem dX13_run_9 : decode cX13_run 9 = .ok (.ireturn, 1) := by decide +kernel
theorem dX13_run_10 : decode cX13_run 10 = .ok (.aload_n 0, 1) := by decide +kernel
theorem dX13_run_11 : decode cX13_run 11 = .ok (.iload_n 1, 1) := by decide +kernel
theorem dX13_run_12 : decode cX13_run 12 = .ok (.invokevirtual 332, 3) := by decide +kernel
theorem dX13_run_15 : decode cX13_run 15 = .ok (.aload_n 0, 1) := by decide +kernel
theorem dX13_run_16 : decode cX13_run 16 = .ok (.getfield 117, 3) := by decide +kernel
theorem dX13_run_19 : decode cX13_run 19 = .ok (.aload_n 0, 1) := by decide +kernel
theorem dX13_run_20 : decode cX13_run 20 = .ok (.getfield 120, 3) := by decide +kernel
theorem dX13_run_23 : decode cX13_run 23 = .ok (.invokestatic 336, 3) := by decide +kernel
theorem dX13_run_26 : decode cX13_run 26 = .ok (.aload_n 0, 1) := by decide +kernel
theorem dX13_run_27 : decode cX13_run 27 = .ok (.aload_n 0, 1) := by decide +kernel
theorem dX13_run_28 : decode cX13_run 28 = .ok (.getfield 269, 3) := by decide +kernel
theorem dX13_run_31 : decode cX13_run 31 = .ok (.putfield 340, 3) := by decide +kernel
theorem dX13_run_34 : decode cX13_run 34 = .ok (.aload_n 0, 1) := by decide +kernel
theorem dX13_run_35 : decode cX13_run 35 = .ok (.aload_n 0, 1) := by decide +kernel
theorem dX13_run_36 : decode cX13_run 36 = .ok (.getfield 329, 3) := by decide +kernel
theorem dX13_run_39 : decode cX13_run 39 = .ok (.putfield 343, 3) := by decide +kernel
theorem dX13_run_42 : decode cX13_run 42 = .ok (.aload_n 0, 1) := by decide +kernel
theorem dX13_run_43 : decode cX13_run 43 = .ok (.aload_n 0, 1) := by decide +kernel
theorem dX13_run_44 : decode cX13_run 44 = .ok (.getfield 279, 3) := by decide +kernel
theorem dX13_run_47 : decode cX13_run 47 = .ok (.putfield 346, 3) := by decide +kernel
theorem dX13_run_50 : decode cX13_run 50 = .ok (.aload_n 0, 1) := by decide +kernel
theorem dX13_run_51 : decode cX13_run 51 = .ok (.getfield 340, 3) := by decide +kernel
theorem dX13_run_54 : decode cX13_run 54 = .ok (.ireturn, 1) := by decide +kernel
theorem dX13_copies_0 : decode cX13_copies 0 = .ok (.iconst 0, 1) := by decide +kernel
theorem dX13_copies_1 : decode cX13_copies 1 = .ok (.istore_n 2, 1) := by decide +kernel
theorem dX13_copies_2 : decode cX13_copies 2 = .ok (.iload_n 2, 1) := by decide +kernel
theorem dX13_copies_3 : decode cX13_copies 3 = .ok (.aload_n 0, 1) := by decide +kernel
theorem dX13_copies_4 : decode cX13_copies 4 = .ok (.arraylength, 1) := by decide +kernel
theorem dX13_copies_5 : decode cX13_copies 5 = .ok (.if_icmp .ge 15, 3) := by decide +kernel
theorem dX13_copies_8 : decode cX13_copies 8 = .ok (.aload_n 1, 1) := by decide +kernel
theorem dX13_copies_9 : decode cX13_copies 9 = .ok (.iload_n 2, 1) := by decide +kernel
theorem dX13_copies_10 : decode cX13_copies 10 = .ok (.aload_n 0, 1) := by decide +kernel
theorem dX13_copies_11 : decode cX13_copies 11 = .ok (.iload_n 2, 1) := by decide +kernel
theorem dX13_copies_12 : decode cX13_copies 12 = .ok (.iaload, 1) := by decide +kernel
theorem dX13_copies_13 : decode cX13_copies 13 = .ok (.iastore, 1) := by decide +kernel
theorem dX13_copies_14 : decode cX13_copies 14 = .ok (.iinc 2 1, 3) := by decide +kernel
theorem dX13_copies_17 : decode cX13_copies 17 = .ok (.goto (-15), 3) := by decide +kernel
theorem dX13_copies_20 : decode cX13_copies 20 = .ok (.return_, 1) := by decide +kernel
theorem dX13_told_0 : decode cX13_told 0 = .ok (.iload_n 1, 1) := by decide +kernel
theorem dX13_told_1 : decode cX13_told 1 = .ok (.i2l, 1) := by decide +kernel
theorem dX13_told_2 : decode cX13_told 2 = .ok (.lconst 0, 1) := by decide +kernel
theorem dX13_told_3 : decode cX13_told 3 = .ok (.ldc2_w 263, 3) := by decide +kernel
theorem dX13_told_6 : decode cX13_told 6 = .ok (.invokestatic 177, 3) := by decide +kernel
theorem dX13_told_9 : decode cX13_told 9 = .ok (.ifCond .eq 34, 3) := by decide +kernel
theorem dX13_told_12 : decode cX13_told 12 = .ok (.iload_n 1, 1) := by decide +kernel
theorem dX13_told_13 : decode cX13_told 13 = .ok (.ifCond .ne 11, 3) := by decide +kernel
theorem dX13_told_16 : decode cX13_told 16 = .ok (.aload_n 0, 1) := by decide +kernel
theorem dX13_told_17 : decode cX13_told 17 = .ok (.getfield 340, 3) := by decide +kernel
theorem dX13_told_20 : decode cX13_told 20 = .ok (.i2l, 1) := by decide +kernel
theorem dX13_told_21 : decode cX13_told 21 = .ok (.goto 21, 3) := by decide +kernel
theorem dX13_told_24 : decode cX13_told 24 = .ok (.iload_n 1, 1) := by decide +kernel
theorem dX13_told_25 : decode cX13_told 25 = .ok (.iconst 1, 1) := by decide +kernel
theorem dX13_told_26 : decode cX13_told 26 = .ok (.if_icmp .ne 11, 3) := by decide +kernel
theorem dX13_told_29 : decode cX13_told 29 = .ok (.aload_n 0, 1) := by decide +kernel
theorem dX13_told_30 : decode cX13_told 30 = .ok (.getfield 343, 3) := by decide +kernel
theorem dX13_told_33 : decode cX13_told 33 = .ok (.i2l, 1) := by decide +kernel
theorem dX13_told_34 : decode cX13_told 34 = .ok (.goto 8, 3) := by decide +kernel
theorem dX13_told_37 : decode cX13_told 37 = .ok (.aload_n 0, 1) := by decide +kernel
theorem dX13_told_38 : decode cX13_told 38 = .ok (.getfield 346, 3) := by decide +kernel
theorem dX13_told_41 : decode cX13_told 41 = .ok (.i2l, 1) := by decide +kernel
theorem dX13_told_42 : decode cX13_told 42 = .ok (.lreturn, 1) := by decide +kernel
theorem dX13_told_43 : decode cX13_told 43 = .ok (.iload_n 1, 1) := by decide +kernel
theorem dX13_told_44 : decode cX13_told 44 = .ok (.i2l, 1) := by decide +kernel
theorem dX13_told_45 : decode cX13_told 45 = .ok (.ldc2_w 349, 3) := by decide +kernel
theorem dX13_told_48 : decode cX13_told 48 = .ok (.ldc2_w 351, 3) := by decide +kernel
theorem dX13_told_51 : decode cX13_told 51 = .ok (.invokestatic 177, 3) := by decide +kernel
theorem dX13_told_54 : decode cX13_told 54 = .ok (.ifCond .eq 14, 3) := by decide +kernel
theorem dX13_told_57 : decode cX13_told 57 = .ok (.aload_n 0, 1) := by decide +kernel
theorem dX13_told_58 : decode cX13_told 58 = .ok (.getfield 79, 3) := by decide +kernel
theorem dX13_told_61 : decode cX13_told 61 = .ok (.iload_n 1, 1) := by decide +kernel
theorem dX13_told_62 : decode cX13_told 62 = .ok (.bipush 10, 2) := by decide +kernel
theorem dX13_told_64 : decode cX13_told 64 = .ok (.isub, 1) := by decide +kernel
theorem dX13_told_65 : decode cX13_told 65 = .ok (.iaload, 1) := by decide +kernel
theorem dX13_told_66 : decode cX13_told 66 = .ok (.i2l, 1) := by decide +kernel
theorem dX13_told_67 : decode cX13_told 67 = .ok (.lreturn, 1) := by decide +kernel
theorem dX13_told_68 : decode cX13_told 68 = .ok (.iload_n 1, 1) := by decide +kernel
theorem dX13_told_69 : decode cX13_told 69 = .ok (.i2l, 1) := by decide +kernel
theorem dX13_told_70 : decode cX13_told 70 = .ok (.ldc2_w 353, 3) := by decide +kernel
theorem dX13_told_73 : decode cX13_told 73 = .ok (.ldc2_w 355, 3) := by decide +kernel
theorem dX13_told_76 : decode cX13_told 76 = .ok (.invokestatic 177, 3) := by decide +kernel
theorem dX13_told_79 : decode cX13_told 79 = .ok (.ifCond .eq 14, 3) := by decide +kernel
theorem dX13_told_82 : decode cX13_told 82 = .ok (.aload_n 0, 1) := by decide +kernel
theorem dX13_told_83 : decode cX13_told 83 = .ok (.getfield 82, 3) := by decide +kernel
theorem dX13_told_86 : decode cX13_told 86 = .ok (.iload_n 1, 1) := by decide +kernel
theorem dX13_told_87 : decode cX13_told 87 = .ok (.bipush 20, 2) := by decide +kernel
theorem dX13_told_89 : decode cX13_told 89 = .ok (.isub, 1) := by decide +kernel
theorem dX13_told_90 : decode cX13_told 90 = .ok (.iaload, 1) := by decide +kernel
theorem dX13_told_91 : decode cX13_told 91 = .ok (.i2l, 1) := by decide +kernel
theorem dX13_told_92 : decode cX13_told 92 = .ok (.lreturn, 1) := by decide +kernel
theorem dX13_told_93 : decode cX13_told 93 = .ok (.iload_n 1, 1) := by decide +kernel
theorem dX13_told_94 : decode cX13_told 94 = .ok (.bipush 30, 2) := by decide +kernel
theorem dX13_told_96 : decode cX13_told 96 = .ok (.if_icmp .ne 11, 3) := by decide +kernel
theorem dX13_told_99 : decode cX13_told 99 = .ok (.aload_n 0, 1) := by decide +kernel
theorem dX13_told_100 : decode cX13_told 100 = .ok (.getfield 85, 3) := by decide +kernel
theorem dX13_told_103 : decode cX13_told 103 = .ok (.i2l, 1) := by decide +kernel
theorem dX13_told_104 : decode cX13_told 104 = .ok (.goto 38, 3) := by decide +kernel
theorem dX13_told_107 : decode cX13_told 107 = .ok (.iload_n 1, 1) := by decide +kernel
theorem dX13_told_108 : decode cX13_told 108 = .ok (.i2l, 1) := by decide +kernel
theorem dX13_told_109 : decode cX13_told 109 = .ok (.ldc2_w 357, 3) := by decide +kernel
theorem dX13_told_112 : decode cX13_told 112 = .ok (.bipush 39, 2) := by decide +kernel
theorem dX13_told_114 : decode cX13_told 114 = .ok (.aload_n 0, 1) := by decide +kernel
theorem dX13_told_115 : decode cX13_told 115 = .ok (.getfield 340, 3) := by decide +kernel
theorem dX13_told_118 : decode cX13_told 118 = .ok (.iadd, 1) := by decide +kernel
theorem dX13_told_119 : decode cX13_told 119 = .ok (.i2l, 1) := by decide +kernel
theorem dX13_told_120 : decode cX13_told 120 = .ok (.invokestatic 177, 3) := by decide +kernel
theorem dX13_told_123 : decode cX13_told 123 = .ok (.ifCond .eq 16, 3) := by decide +kernel
theorem dX13_told_126 : decode cX13_told 126 = .ok (.aload_n 0, 1) := by decide +kernel
theorem dX13_told_127 : decode cX13_told 127 = .ok (.getfield 120, 3) := by decide +kernel
theorem dX13_told_130 : decode cX13_told 130 = .ok (.iload_n 1, 1) := by decide +kernel
theorem dX13_told_131 : decode cX13_told 131 = .ok (.bipush 40, 2) := by decide +kernel
theorem dX13_told_133 : decode cX13_told 133 = .ok (.isub, 1) := by decide +kernel
theorem dX13_told_134 : decode cX13_told 134 = .ok (.iaload, 1) := by decide +kernel
theorem dX13_told_135 : decode cX13_told 135 = .ok (.i2l, 1) := by decide +kernel
theorem dX13_told_136 : decode cX13_told 136 = .ok (.goto 6, 3) := by decide +kernel
theorem dX13_told_139 : decode cX13_told 139 = .ok (.ldc2_w 267, 3) := by decide +kernel
theorem dX13_told_142 : decode cX13_told 142 = .ok (.lreturn, 1) := by decide +kernel
theorem dX13_job_0 : decode cX13_job 0 = .ok (.aload_n 0, 1) := by decide +kernel
theorem dX13_job_1 : decode cX13_job 1 = .ok (.iload_n 1, 1) := by decide +kernel
theorem dX13_job_2 : decode cX13_job 2 = .ok (.invokevirtual 260, 3) := by decide +kernel
theorem dX13_job_5 : decode cX13_job 5 = .ok (.ifCond .ne 5, 3) := by decide +kernel
theorem dX13_job_8 : decode cX13_job 8 = .ok (.iconst (-1), 1) := by decide +kernel
theorem dX13_job_9 : decode cX13_job 9 = .ok (.ireturn, 1) := by decide +kernel
theorem dX13_job_10 : decode cX13_job 10 = .ok (.iconst 0, 1) := by decide +kernel
theorem dX13_job_11 : decode cX13_job 11 = .ok (.istore_n 2, 1) := by decide +kernel
theorem dX13_job_12 : decode cX13_job 12 = .ok (.iload_n 2, 1) := by decide +kernel
theorem dX13_job_13 : decode cX13_job 13 = .ok (.iconst 4, 1) := by decide +kernel
theorem dX13_job_14 : decode cX13_job 14 = .ok (.if_icmp .ge 18, 3) := by decide +kernel
theorem dX13_job_17 : decode cX13_job 17 = .ok (.aload_n 0, 1) := by decide +kernel
theorem dX13_job_18 : decode cX13_job 18 = .ok (.getfield 123, 3) := by decide +kernel
theorem dX13_job_21 : decode cX13_job 21 = .ok (.iload_n 2, 1) := by decide +kernel
theorem dX13_job_22 : decode cX13_job 22 = .ok (.iaload, 1) := by decide +kernel
theorem dX13_job_23 : decode cX13_job 23 = .ok (.ifCond .lt 9, 3) := by decide +kernel
theorem dX13_job_26 : decode cX13_job 26 = .ok (.iinc 2 1, 3) := by decide +kernel
theorem dX13_job_29 : decode cX13_job 29 = .ok (.goto (-17), 3) := by decide +kernel
theorem dX13_job_32 : decode cX13_job 32 = .ok (.iload_n 2, 1) := by decide +kernel
theorem dX13_job_33 : decode cX13_job 33 = .ok (.iconst 4, 1) := by decide +kernel
theorem dX13_job_34 : decode cX13_job 34 = .ok (.if_icmp .ne 6, 3) := by decide +kernel
theorem dX13_job_37 : decode cX13_job 37 = .ok (.bipush (-4), 2) := by decide +kernel
theorem dX13_job_39 : decode cX13_job 39 = .ok (.ireturn, 1) := by decide +kernel
theorem dX13_job_40 : decode cX13_job 40 = .ok (.aload_n 0, 1) := by decide +kernel
theorem dX13_job_41 : decode cX13_job 41 = .ok (.getfield 123, 3) := by decide +kernel
theorem dX13_job_44 : decode cX13_job 44 = .ok (.iload_n 2, 1) := by decide +kernel
theorem dX13_job_45 : decode cX13_job 45 = .ok (.iload_n 1, 1) := by decide +kernel
theorem dX13_job_46 : decode cX13_job 46 = .ok (.iastore, 1) := by decide +kernel
theorem dX13_job_47 : decode cX13_job 47 = .ok (.aload_n 0, 1) := by decide +kernel
theorem dX13_job_48 : decode cX13_job 48 = .ok (.getfield 126, 3) := by decide +kernel
theorem dX13_job_51 : decode cX13_job 51 = .ok (.iload_n 2, 1) := by decide +kernel
theorem dX13_job_52 : decode cX13_job 52 = .ok (.bipush 60, 2) := by decide +kernel
theorem dX13_job_54 : decode cX13_job 54 = .ok (.iastore, 1) := by decide +kernel
theorem dX13_job_55 : decode cX13_job 55 = .ok (.aload_n 0, 1) := by decide +kernel
theorem dX13_job_56 : decode cX13_job 56 = .ok (.getfield 129, 3) := by decide +kernel
theorem dX13_job_59 : decode cX13_job 59 = .ok (.iload_n 2, 1) := by decide +kernel
theorem dX13_job_60 : decode cX13_job 60 = .ok (.aload_n 0, 1) := by decide +kernel
theorem dX13_job_61 : decode cX13_job 61 = .ok (.getfield 45, 3) := by decide +kernel
theorem dX13_job_64 : decode cX13_job 64 = .ok (.bipush 60, 2) := by decide +kernel
theorem dX13_job_66 : decode cX13_job 66 = .ok (.iload_n 1, 1) := by decide +kernel
theorem dX13_job_67 : decode cX13_job 67 = .ok (.imul, 1) := by decide +kernel
theorem dX13_job_68 : decode cX13_job 68 = .ok (.iaload, 1) := by decide +kernel
theorem dX13_job_69 : decode cX13_job 69 = .ok (.iastore, 1) := by decide +kernel
theorem dX13_job_70 : decode cX13_job 70 = .ok (.aload_n 0, 1) := by decide +kernel
theorem dX13_job_71 : decode cX13_job 71 = .ok (.getfield 132, 3) := by decide +kernel
theorem dX13_job_74 : decode cX13_job 74 = .ok (.iload_n 2, 1) := by decide +kernel
theorem dX13_job_75 : decode cX13_job 75 = .ok (.iconst 0, 1) := by decide +kernel
theorem dX13_job_76 : decode cX13_job 76 = .ok (.bastore, 1) := by decide +kernel
theorem dX13_job_77 : decode cX13_job 77 = .ok (.aload_n 0, 1) := by decide +kernel
theorem dX13_job_78 : decode cX13_job 78 = .ok (.getfield 135, 3) := by decide +kernel
theorem dX13_job_81 : decode cX13_job 81 = .ok (.iload_n 2, 1) := by decide +kernel
theorem dX13_job_82 : decode cX13_job 82 = .ok (.iconst 0, 1) := by decide +kernel
theorem dX13_job_83 : decode cX13_job 83 = .ok (.iastore, 1) := by decide +kernel
theorem dX13_job_84 : decode cX13_job 84 = .ok (.iload_n 2, 1) := by decide +kernel
theorem dX13_job_85 : decode cX13_job 85 = .ok (.ireturn, 1) := by decide +kernel
theorem dX13_jobBegins_0 : decode cX13_jobBegins 0 = .ok (.aload_n 0, 1) := by decide +kernel
theorem dX13_jobBegins_1 : decode cX13_jobBegins 1 = .ok (.getfield 129, 3) := by decide +kernel
theorem dX13_jobBegins_4 : decode cX13_jobBegins 4 = .ok (.iload_n 1, 1) := by decide +kernel
theorem dX13_jobBegins_5 : decode cX13_jobBegins 5 = .ok (.iaload, 1) := by decide +kernel
theorem dX13_jobBegins_6 : decode cX13_jobBegins 6 = .ok (.istore_n 2, 1) := by decide +kernel
theorem dX13_jobBegins_7 : decode cX13_jobBegins 7 = .ok (.aload_n 0, 1) := by decide +kernel
theorem dX13_jobBegins_8 : decode cX13_jobBegins 8 = .ok (.getfield 52, 3) := by decide +kernel
theorem dX13_jobBegins_11 : decode cX13_jobBegins 11 = .ok (.iload_n 2, 1) := by decide +kernel
theorem dX13_jobBegins_12 : decode cX13_jobBegins 12 = .ok (.iaload, 1) := by decide +kernel
theorem dX13_jobBegins_13 : decode cX13_jobBegins 13 = .ok (.aload_n 0, 1) := by decide +kernel
theorem dX13_jobBegins_14 : decode cX13_jobBegins 14 = .ok (.getfield 135, 3) := by decide +kernel
theorem dX13_jobBegins_17 : decode cX13_jobBegins 17 = .ok (.iload_n 1, 1) := by decide +kernel
theorem dX13_jobBegins_18 : decode cX13_jobBegins 18 = .ok (.iaload, 1) := by decide +kernel
theorem dX13_jobBegins_19 : decode cX13_jobBegins 19 = .ok (.invokestatic 312, 3) := by decide +kernel
theorem dX13_jobBegins_22 : decode cX13_jobBegins 22 = .ok (.ifCond .ne 18, 3) := by decide +kernel
theorem dX13_jobBegins_25 : decode cX13_jobBegins 25 = .ok (.aload_n 0, 1) := by decide +kernel
theorem dX13_jobBegins_26 : decode cX13_jobBegins 26 = .ok (.getfield 129, 3) := by decide +kernel
theorem dX13_jobBegins_29 : decode cX13_jobBegins 29 = .ok (.iload_n 1, 1) := by decide +kernel
theorem dX13_jobBegins_30 : decode cX13_jobBegins 30 = .ok (.aload_n 0, 1) := by decide +kernel
theorem dX13_jobBegins_31 : decode cX13_jobBegins 31 = .ok (.getfield 49, 3) := by decide +kernel
theorem dX13_jobBegins_34 : decode cX13_jobBegins 34 = .ok (.iload_n 2, 1) := by decide +kernel
theorem dX13_jobBegins_35 : decode cX13_jobBegins 35 = .ok (.iaload, 1) := by decide +kernel
theorem dX13_jobBegins_36 : decode cX13_jobBegins 36 = .ok (.iastore, 1) := by decide +kernel
theorem dX13_jobBegins_37 : decode cX13_jobBegins 37 = .ok (.goto 60, 3) := by decide +kernel
theorem dX13_jobBegins_40 : decode cX13_jobBegins 40 = .ok (.aload_n 0, 1) := by decide +kernel
theorem dX13_jobBegins_41 : decode cX13_jobBegins 41 = .ok (.getfield 315, 3) := by decide +kernel
theorem dX13_jobBegins_44 : decode cX13_jobBegins 44 = .ok (.ifCond .ne 26, 3) := by decide +kernel
theorem dX13_jobBegins_47 : decode cX13_jobBegins 47 = .ok (.aload_n 0, 1) := by decide +kernel
theorem dX13_jobBegins_48 : decode cX13_jobBegins 48 = .ok (.getfield 135, 3) := by decide +kernel
theorem dX13_jobBegins_51 : decode cX13_jobBegins 51 = .ok (.iload_n 1, 1) := by decide +kernel
theorem dX13_jobBegins_52 : decode cX13_jobBegins 52 = .ok (.bipush 8, 2) := by decide +kernel
theorem dX13_jobBegins_54 : decode cX13_jobBegins 54 = .ok (.iastore, 1) := by decide +kernel
theorem dX13_jobBegins_55 : decode cX13_jobBegins 55 = .ok (.aload_n 0, 1) := by decide +kernel
theorem dX13_jobBegins_56 : decode cX13_jobBegins 56 = .ok (.getfield 129, 3) := by decide +kernel
theorem dX13_jobBegins_59 : decode cX13_jobBegins 59 = .ok (.iload_n 1, 1) := by decide +kernel
theorem dX13_jobBegins_60 : decode cX13_jobBegins 60 = .ok (.aload_n 0, 1) := by decide +kernel
theorem dX13_jobBegins_61 : decode cX13_jobBegins 61 = .ok (.getfield 49, 3) := by decide +kernel
theorem dX13_jobBegins_64 : decode cX13_jobBegins 64 = .ok (.iload_n 2, 1) := by decide +kernel
theorem dX13_jobBegins_65 : decode cX13_jobBegins 65 = .ok (.iaload, 1) := by decide +kernel
theorem dX13_jobBegins_66 : decode cX13_jobBegins 66 = .ok (.iastore, 1) := by decide +kernel
theorem dX13_jobBegins_67 : decode cX13_jobBegins 67 = .ok (.goto 30, 3) := by decide +kernel
theorem dX13_jobBegins_70 : decode cX13_jobBegins 70 = .ok (.aload_n 0, 1) := by decide +kernel
theorem dX13_jobBegins_71 : decode cX13_jobBegins 71 = .ok (.dup, 1) := by decide +kernel
theorem dX13_jobBegins_72 : decode cX13_jobBegins 72 = .ok (.getfield 315, 3) := by decide +kernel
theorem dX13_jobBegins_75 : decode cX13_jobBegins 75 = .ok (.iconst 1, 1) := by decide +kernel
theorem dX13_jobBegins_76 : decode cX13_jobBegins 76 = .ok (.isub, 1) := by decide +kernel
theorem dX13_jobBegins_77 : decode cX13_jobBegins 77 = .ok (.putfield 315, 3) := by decide +kernel
theorem dX13_jobBegins_80 : decode cX13_jobBegins 80 = .ok (.aload_n 0, 1) := by decide +kernel
theorem dX13_jobBegins_81 : decode cX13_jobBegins 81 = .ok (.bipush 24, 2) := by decide +kernel
theorem dX13_jobBegins_83 : decode cX13_jobBegins 83 = .ok (.iload_n 1, 1) := by decide +kernel
theorem dX13_jobBegins_84 : decode cX13_jobBegins 84 = .ok (.iadd, 1) := by decide +kernel
theorem dX13_jobBegins_85 : decode cX13_jobBegins 85 = .ok (.iload_n 2, 1) := by decide +kernel
theorem dX13_jobBegins_86 : decode cX13_jobBegins 86 = .ok (.iconst 0, 1) := by decide +kernel
theorem dX13_jobBegins_87 : decode cX13_jobBegins 87 = .ok (.invokevirtual 321, 3) := by decide +kernel
theorem dX13_jobBegins_90 : decode cX13_jobBegins 90 = .ok (.aload_n 0, 1) := by decide +kernel
theorem dX13_jobBegins_91 : decode cX13_jobBegins 91 = .ok (.getfield 132, 3) := by decide +kernel
theorem dX13_jobBegins_94 : decode cX13_jobBegins 94 = .ok (.iload_n 1, 1) := by decide +kernel
theorem dX13_jobBegins_95 : decode cX13_jobBegins 95 = .ok (.iconst 1, 1) := by decide +kernel
theorem dX13_jobBegins_96 : decode cX13_jobBegins 96 = .ok (.bastore, 1) := by decide +kernel
theorem dX13_jobBegins_97 : decode cX13_jobBegins 97 = .ok (.return_, 1) := by decide +kernel
theorem dX13_turn_0 : decode cX13_turn 0 = .ok (.iload_n 1, 1) := by decide +kernel
theorem dX13_turn_1 : decode cX13_turn 1 = .ok (.i2l, 1) := by decide +kernel
theorem dX13_turn_2 : decode cX13_turn 2 = .ok (.lconst 0, 1) := by decide +kernel
theorem dX13_turn_3 : decode cX13_turn 3 = .ok (.ldc2_w 359, 3) := by decide +kernel
theorem dX13_turn_6 : decode cX13_turn 6 = .ok (.invokestatic 177, 3) := by decide +kernel
theorem dX13_turn_9 : decode cX13_turn 9 = .ok (.ifCond .eq 12, 3) := by decide +kernel
theorem dX13_turn_12 : decode cX13_turn 12 = .ok (.aload_n 0, 1) := by decide +kernel
theorem dX13_turn_13 : decode cX13_turn 13 = .ok (.getfield 123, 3) := by decide +kernel
theorem dX13_turn_16 : decode cX13_turn 16 = .ok (.iload_n 1, 1) := by decide +kernel
theorem dX13_turn_17 : decode cX13_turn 17 = .ok (.iaload, 1) := by decide +kernel
theorem dX13_turn_18 : decode cX13_turn 18 = .ok (.ifCond .ge 7, 3) := by decide +kernel
theorem dX13_turn_21 : decode cX13_turn 21 = .ok (.ldc2_w 267, 3) := by decide +kernel
theorem dX13_turn_24 : decode cX13_turn 24 = .ok (.lreturn, 1) := by decide +kernel
theorem dX13_turn_25 : decode cX13_turn 25 = .ok (.aload_n 0, 1) := by decide +kernel
theorem dX13_turn_26 : decode cX13_turn 26 = .ok (.aload_n 0, 1) := by decide +kernel
theorem dX13_turn_27 : decode cX13_turn 27 = .ok (.getfield 126, 3) := by decide +kernel
theorem dX13_turn_30 : decode cX13_turn 30 = .ok (.iload_n 1, 1) := by decide +kernel
theorem dX13_turn_31 : decode cX13_turn 31 = .ok (.iaload, 1) := by decide +kernel
theorem dX13_turn_32 : decode cX13_turn 32 = .ok (.putfield 315, 3) := by decide +kernel
theorem dX13_turn_35 : decode cX13_turn 35 = .ok (.aload_n 0, 1) := by decide +kernel
theorem dX13_turn_36 : decode cX13_turn 36 = .ok (.iconst 0, 1) := by decide +kernel
theorem dX13_turn_37 : decode cX13_turn 37 = .ok (.putfield 309, 3) := by decide +kernel
theorem dX13_turn_40 : decode cX13_turn 40 = .ok (.ldc2_w 267, 3) := by decide +kernel
theorem dX13_turn_43 : decode cX13_turn 43 = .ok (.lstore_n 2, 1) := by decide +kernel
theorem dX13_turn_44 : decode cX13_turn 44 = .ok (.lload_n 2, 1) := by decide +kernel
theorem dX13_turn_45 : decode cX13_turn 45 = .ok (.ldc2_w 267, 3) := by decide +kernel
theorem dX13_turn_48 : decode cX13_turn 48 = .ok (.lcmp, 1) := by decide +kernel
theorem dX13_turn_49 : decode cX13_turn 49 = .ok (.ifCond .ne 111, 3) := by decide +kernel
theorem dX13_turn_52 : decode cX13_turn 52 = .ok (.aload_n 0, 1) := by decide +kernel
theorem dX13_turn_53 : decode cX13_turn 53 = .ok (.getfield 129, 3) := by decide +kernel
theorem dX13_turn_56 : decode cX13_turn 56 = .ok (.iload_n 1, 1) := by decide +kernel
theorem dX13_turn_57 : decode cX13_turn 57 = .ok (.iaload, 1) := by decide +kernel
theorem dX13_turn_58 : decode cX13_turn 58 = .ok (.ifCond .lt 102, 3) := by decide +kernel
theorem dX13_turn_61 : decode cX13_turn 61 = .ok (.aload_n 0, 1) := by decide +kernel
theorem dX13_turn_62 : decode cX13_turn 62 = .ok (.getfield 132, 3) := by decide +kernel
theorem dX13_turn_65 : decode cX13_turn 65 = .ok (.iload_n 1, 1) := by decide +kernel
theorem dX13_turn_66 : decode cX13_turn 66 = .ok (.baload, 1) := by decide +kernel
theorem dX13_turn_67 : decode cX13_turn 67 = .ok (.ifCond .ne 11, 3) := by decide +kernel
theorem dX13_turn_70 : decode cX13_turn 70 = .ok (.aload_n 0, 1) := by decide +kernel
theorem dX13_turn_71 : decode cX13_turn 71 = .ok (.iload_n 1, 1) := by decide +kernel
theorem dX13_turn_72 : decode cX13_turn 72 = .ok (.invokevirtual 361, 3) := by decide +kernel
theorem dX13_turn_75 : decode cX13_turn 75 = .ok (.goto (-31), 3) := by decide +kernel
theorem dX13_turn_78 : decode cX13_turn 78 = .ok (.aload_n 0, 1) := by decide +kernel
theorem dX13_turn_79 : decode cX13_turn 79 = .ok (.getfield 58, 3) := by decide +kernel
theorem dX13_turn_82 : decode cX13_turn 82 = .ok (.aload_n 0, 1) := by decide +kernel
theorem dX13_turn_83 : decode cX13_turn 83 = .ok (.getfield 129, 3) := by decide +kernel
theorem dX13_turn_86 : decode cX13_turn 86 = .ok (.iload_n 1, 1) := by decide +kernel
theorem dX13_turn_87 : decode cX13_turn 87 = .ok (.iaload, 1) := by decide +kernel
theorem dX13_turn_88 : decode cX13_turn 88 = .ok (.iaload, 1) := by decide +kernel
theorem dX13_turn_89 : decode cX13_turn 89 = .ok (.iconst 1, 1) := by decide +kernel
theorem dX13_turn_90 : decode cX13_turn 90 = .ok (.isub, 1) := by decide +kernel
theorem dX13_turn_91 : decode cX13_turn 91 = .ok (.istore 4, 2) := by decide +kernel
theorem dX13_turn_93 : decode cX13_turn 93 = .ok (.aload_n 0, 1) := by decide +kernel
theorem dX13_turn_94 : decode cX13_turn 94 = .ok (.bipush 24, 2) := by decide +kernel
theorem dX13_turn_96 : decode cX13_turn 96 = .ok (.iload_n 1, 1) := by decide +kernel
theorem dX13_turn_97 : decode cX13_turn 97 = .ok (.iadd, 1) := by decide +kernel
theorem dX13_turn_98 : decode cX13_turn 98 = .ok (.iload 4, 2) := by decide +kernel
theorem dX13_turn_100 : decode cX13_turn 100 = .ok (.invokevirtual 275, 3) := by decide +kernel
theorem dX13_turn_103 : decode cX13_turn 103 = .ok (.lstore_n 2, 1) := by decide +kernel
theorem dX13_turn_104 : decode cX13_turn 104 = .ok (.lload_n 2, 1) := by decide +kernel
theorem dX13_turn_105 : decode cX13_turn 105 = .ok (.ldc2_w 267, 3) := by decide +kernel
theorem dX13_turn_108 : decode cX13_turn 108 = .ok (.lcmp, 1) := by decide +kernel
theorem dX13_turn_109 : decode cX13_turn 109 = .ok (.ifCond .ne 48, 3) := by decide +kernel
theorem dX13_turn_112 : decode cX13_turn 112 = .ok (.aload_n 0, 1) := by decide +kernel
theorem dX13_turn_113 : decode cX13_turn 113 = .ok (.getfield 135, 3) := by decide +kernel
theorem dX13_turn_116 : decode cX13_turn 116 = .ok (.iload_n 1, 1) := by decide +kernel
theorem dX13_turn_117 : decode cX13_turn 117 = .ok (.aload_n 0, 1) := by decide +kernel
theorem dX13_turn_118 : decode cX13_turn 118 = .ok (.getfield 108, 3) := by decide +kernel
theorem dX13_turn_121 : decode cX13_turn 121 = .ok (.bipush 6, 2) := by decide +kernel
theorem dX13_turn_123 : decode cX13_turn 123 = .ok (.bipush 24, 2) := by decide +kernel
theorem dX13_turn_125 : decode cX13_turn 125 = .ok (.iload_n 1, 1) := by decide +kernel
theorem dX13_turn_126 : decode cX13_turn 126 = .ok (.iadd, 1) := by decide +kernel
theorem dX13_turn_127 : decode cX13_turn 127 = .ok (.imul, 1) := by decide +kernel
theorem dX13_turn_128 : decode cX13_turn 128 = .ok (.iload 4, 2) := by decide +kernel
theorem dX13_turn_130 : decode cX13_turn 130 = .ok (.iadd, 1) := by decide +kernel
theorem dX13_turn_131 : decode cX13_turn 131 = .ok (.iaload, 1) := by decide +kernel
theorem dX13_turn_132 : decode cX13_turn 132 = .ok (.iastore, 1) := by decide +kernel
theorem dX13_turn_133 : decode cX13_turn 133 = .ok (.aload_n 0, 1) := by decide +kernel
theorem dX13_turn_134 : decode cX13_turn 134 = .ok (.getfield 132, 3) := by decide +kernel
theorem dX13_turn_137 : decode cX13_turn 137 = .ok (.iload_n 1, 1) := by decide +kernel
theorem dX13_turn_138 : decode cX13_turn 138 = .ok (.iconst 0, 1) := by decide +kernel
theorem dX13_turn_139 : decode cX13_turn 139 = .ok (.bastore, 1) := by decide +kernel
theorem dX13_turn_140 : decode cX13_turn 140 = .ok (.aload_n 0, 1) := by decide +kernel
theorem dX13_turn_141 : decode cX13_turn 141 = .ok (.getfield 129, 3) := by decide +kernel
theorem dX13_turn_144 : decode cX13_turn 144 = .ok (.iload_n 1, 1) := by decide +kernel
theorem dX13_turn_145 : decode cX13_turn 145 = .ok (.aload_n 0, 1) := by decide +kernel
theorem dX13_turn_146 : decode cX13_turn 146 = .ok (.getfield 49, 3) := by decide +kernel
theorem dX13_turn_149 : decode cX13_turn 149 = .ok (.aload_n 0, 1) := by decide +kernel
theorem dX13_turn_150 : decode cX13_turn 150 = .ok (.getfield 129, 3) := by decide +kernel
theorem dX13_turn_153 : decode cX13_turn 153 = .ok (.iload_n 1, 1) := by decide +kernel
theorem dX13_turn_154 : decode cX13_turn 154 = .ok (.iaload, 1) := by decide +kernel
theorem dX13_turn_155 : decode cX13_turn 155 = .ok (.iaload, 1) := by decide +kernel
theorem dX13_turn_156 : decode cX13_turn 156 = .ok (.iastore, 1) := by decide +kernel
theorem dX13_turn_157 : decode cX13_turn 157 = .ok (.goto (-113), 3) := by decide +kernel
theorem dX13_turn_160 : decode cX13_turn 160 = .ok (.aload_n 0, 1) := by decide +kernel
theorem dX13_turn_161 : decode cX13_turn 161 = .ok (.getfield 126, 3) := by decide +kernel
theorem dX13_turn_164 : decode cX13_turn 164 = .ok (.iload_n 1, 1) := by decide +kernel
theorem dX13_turn_165 : decode cX13_turn 165 = .ok (.aload_n 0, 1) := by decide +kernel
theorem dX13_turn_166 : decode cX13_turn 166 = .ok (.getfield 315, 3) := by decide +kernel
theorem dX13_turn_169 : decode cX13_turn 169 = .ok (.iastore, 1) := by decide +kernel
theorem dX13_turn_170 : decode cX13_turn 170 = .ok (.lload_n 2, 1) := by decide +kernel
theorem dX13_turn_171 : decode cX13_turn 171 = .ok (.ldc2_w 267, 3) := by decide +kernel
theorem dX13_turn_174 : decode cX13_turn 174 = .ok (.lcmp, 1) := by decide +kernel
theorem dX13_turn_175 : decode cX13_turn 175 = .ok (.ifCond .ne 10, 3) := by decide +kernel
theorem dX13_turn_178 : decode cX13_turn 178 = .ok (.aload_n 0, 1) := by decide +kernel
theorem dX13_turn_179 : decode cX13_turn 179 = .ok (.getfield 123, 3) := by decide +kernel
theorem dX13_turn_182 : decode cX13_turn 182 = .ok (.iload_n 1, 1) := by decide +kernel
theorem dX13_turn_183 : decode cX13_turn 183 = .ok (.iconst (-1), 1) := by decide +kernel
theorem dX13_turn_184 : decode cX13_turn 184 = .ok (.iastore, 1) := by decide +kernel
theorem dX13_turn_185 : decode cX13_turn 185 = .ok (.lload_n 2, 1) := by decide +kernel
theorem dX13_turn_186 : decode cX13_turn 186 = .ok (.lreturn, 1) := by decide +kernel
theorem dX13_stop_0 : decode cX13_stop 0 = .ok (.iload_n 1, 1) := by decide +kernel
theorem dX13_stop_1 : decode cX13_stop 1 = .ok (.i2l, 1) := by decide +kernel
theorem dX13_stop_2 : decode cX13_stop 2 = .ok (.lconst 0, 1) := by decide +kernel
theorem dX13_stop_3 : decode cX13_stop 3 = .ok (.ldc2_w 359, 3) := by decide +kernel
theorem dX13_stop_6 : decode cX13_stop 6 = .ok (.invokestatic 177, 3) := by decide +kernel
theorem dX13_stop_9 : decode cX13_stop 9 = .ok (.ifCond .eq 12, 3) := by decide +kernel
theorem dX13_stop_12 : decode cX13_stop 12 = .ok (.aload_n 0, 1) := by decide +kernel
theorem dX13_stop_13 : decode cX13_stop 13 = .ok (.getfield 123, 3) := by decide +kernel
theorem dX13_stop_16 : decode cX13_stop 16 = .ok (.iload_n 1, 1) := by decide +kernel
theorem dX13_stop_17 : decode cX13_stop 17 = .ok (.iaload, 1) := by decide +kernel
theorem dX13_stop_18 : decode cX13_stop 18 = .ok (.ifCond .ge 5, 3) := by decide +kernel
theorem dX13_stop_21 : decode cX13_stop 21 = .ok (.iconst (-1), 1) := by decide +kernel
theorem dX13_stop_22 : decode cX13_stop 22 = .ok (.ireturn, 1) := by decide +kernel
theorem dX13_stop_23 : decode cX13_stop 23 = .ok (.aload_n 0, 1) := by decide +kernel
theorem dX13_stop_24 : decode cX13_stop 24 = .ok (.getfield 123, 3) := by decide +kernel
theorem dX13_stop_27 : decode cX13_stop 27 = .ok (.iload_n 1, 1) := by decide +kernel
theorem dX13_stop_28 : decode cX13_stop 28 = .ok (.iaload, 1) := by decide +kernel
theorem dX13_stop_29 : decode cX13_stop 29 = .ok (.istore_n 2, 1) := by decide +kernel
theorem dX13_stop_30 : decode cX13_stop 30 = .ok (.aload_n 0, 1) := by decide +kernel
theorem dX13_stop_31 : decode cX13_stop 31 = .ok (.getfield 123, 3) := by decide +kernel
theorem dX13_stop_34 : decode cX13_stop 34 = .ok (.iload_n 1, 1) := by decide +kernel
theorem dX13_stop_35 : decode cX13_stop 35 = .ok (.iconst (-1), 1) := by decide +kernel
theorem dX13_stop_36 : decode cX13_stop 36 = .ok (.iastore, 1) := by decide +kernel
theorem dX13_stop_37 : decode cX13_stop 37 = .ok (.iload_n 2, 1) := by decide +kernel
theorem dX13_stop_38 : decode cX13_stop 38 = .ok (.ireturn, 1) := by decide +kernel
theorem dX13_thinks_0 : decode cX13_thinks 0 = .ok (.aload_n 0, 1) := by decide +kernel
theorem dX13_thinks_1 : decode cX13_thinks 1 = .ok (.getfield 79, 3) := by decide +kernel
theorem dX13_thinks_4 : decode cX13_thinks 4 = .ok (.aload_n 0, 1) := by decide +kernel
theorem dX13_thinks_5 : decode cX13_thinks 5 = .ok (.getfield 138, 3) := by decide +kernel
theorem dX13_thinks_8 : decode cX13_thinks 8 = .ok (.invokestatic 336, 3) := by decide +kernel
theorem dX13_thinks_11 : decode cX13_thinks 11 = .ok (.aload_n 0, 1) := by decide +kernel
theorem dX13_thinks_12 : decode cX13_thinks 12 = .ok (.iload_n 1, 1) := by decide +kernel
theorem dX13_thinks_13 : decode cX13_thinks 13 = .ok (.invokevirtual 332, 3) := by decide +kernel
theorem dX13_thinks_16 : decode cX13_thinks 16 = .ok (.aload_n 0, 1) := by decide +kernel
theorem dX13_thinks_17 : decode cX13_thinks 17 = .ok (.getfield 138, 3) := by decide +kernel
theorem dX13_thinks_20 : decode cX13_thinks 20 = .ok (.aload_n 0, 1) := by decide +kernel
theorem dX13_thinks_21 : decode cX13_thinks 21 = .ok (.getfield 79, 3) := by decide +kernel
theorem dX13_thinks_24 : decode cX13_thinks 24 = .ok (.invokestatic 336, 3) := by decide +kernel
theorem dX13_thinks_27 : decode cX13_thinks 27 = .ok (.return_, 1) := by decide +kernel
theorem dX13_on_0 : decode cX13_on 0 = .ok (.aload_n 0, 1) := by decide +kernel
theorem dX13_on_1 : decode cX13_on 1 = .ok (.iload_n 1, 1) := by decide +kernel
theorem dX13_on_2 : decode cX13_on 2 = .ok (.invokevirtual 260, 3) := by decide +kernel
theorem dX13_on_5 : decode cX13_on 5 = .ok (.ifCond .eq 7, 3) := by decide +kernel
theorem dX13_on_8 : decode cX13_on 8 = .ok (.iload_n 2, 1) := by decide +kernel
theorem dX13_on_9 : decode cX13_on 9 = .ok (.ifCond .ge 7, 3) := by decide +kernel
theorem dX13_on_12 : decode cX13_on 12 = .ok (.ldc2_w 267, 3) := by decide +kernel
theorem dX13_on_15 : decode cX13_on 15 = .ok (.lreturn, 1) := by decide +kernel
theorem dX13_on_16 : decode cX13_on 16 = .ok (.aload_n 0, 1) := by decide +kernel
theorem dX13_on_17 : decode cX13_on 17 = .ok (.iload_n 1, 1) := by decide +kernel
theorem dX13_on_18 : decode cX13_on 18 = .ok (.invokevirtual 364, 3) := by decide +kernel
theorem dX13_on_21 : decode cX13_on 21 = .ok (.iload_n 2, 1) := by decide +kernel
theorem dX13_on_22 : decode cX13_on 22 = .ok (.tableswitch 54 0 3 #[30, 36, 42, 48], 30) := by decide +kernel
theorem dX13_on_52 : decode cX13_on 52 = .ok (.aload_n 0, 1) := by decide +kernel
theorem dX13_on_53 : decode cX13_on 53 = .ok (.getfield 269, 3) := by decide +kernel
theorem dX13_on_56 : decode cX13_on 56 = .ok (.i2l, 1) := by decide +kernel
theorem dX13_on_57 : decode cX13_on 57 = .ok (.lreturn, 1) := by decide +kernel
theorem dX13_on_58 : decode cX13_on 58 = .ok (.aload_n 0, 1) := by decide +kernel
theorem dX13_on_59 : decode cX13_on 59 = .ok (.getfield 329, 3) := by decide +kernel
theorem dX13_on_62 : decode cX13_on 62 = .ok (.i2l, 1) := by decide +kernel
theorem dX13_on_63 : decode cX13_on 63 = .ok (.lreturn, 1) := by decide +kernel
theorem dX13_on_64 : decode cX13_on 64 = .ok (.aload_n 0, 1) := by decide +kernel
theorem dX13_on_65 : decode cX13_on 65 = .ok (.getfield 279, 3) := by decide +kernel
theorem dX13_on_68 : decode cX13_on 68 = .ok (.i2l, 1) := by decide +kernel
theorem dX13_on_69 : decode cX13_on 69 = .ok (.lreturn, 1) := by decide +kernel
theorem dX13_on_70 : decode cX13_on 70 = .ok (.aload_n 0, 1) := by decide +kernel
theorem dX13_on_71 : decode cX13_on 71 = .ok (.getfield 315, 3) := by decide +kernel
theorem dX13_on_74 : decode cX13_on 74 = .ok (.i2l, 1) := by decide +kernel
theorem dX13_on_75 : decode cX13_on 75 = .ok (.lreturn, 1) := by decide +kernel
theorem dX13_on_76 : decode cX13_on 76 = .ok (.iload_n 2, 1) := by decide +kernel
theorem dX13_on_77 : decode cX13_on 77 = .ok (.i2l, 1) := by decide +kernel
theorem dX13_on_78 : decode cX13_on 78 = .ok (.ldc2_w 357, 3) := by decide +kernel
theorem dX13_on_81 : decode cX13_on 81 = .ok (.bipush 39, 2) := by decide +kernel
theorem dX13_on_83 : decode cX13_on 83 = .ok (.aload_n 0, 1) := by decide +kernel
theorem dX13_on_84 : decode cX13_on 84 = .ok (.getfield 269, 3) := by decide +kernel
theorem dX13_on_87 : decode cX13_on 87 = .ok (.iadd, 1) := by decide +kernel
theorem dX13_on_88 : decode cX13_on 88 = .ok (.i2l, 1) := by decide +kernel
theorem dX13_on_89 : decode cX13_on 89 = .ok (.invokestatic 177, 3) := by decide +kernel
theorem dX13_on_92 : decode cX13_on 92 = .ok (.ifCond .eq 16, 3) := by decide +kernel
theorem dX13_on_95 : decode cX13_on 95 = .ok (.aload_n 0, 1) := by decide +kernel
theorem dX13_on_96 : decode cX13_on 96 = .ok (.getfield 117, 3) := by decide +kernel
theorem dX13_on_99 : decode cX13_on 99 = .ok (.iload_n 2, 1) := by decide +kernel
theorem dX13_on_100 : decode cX13_on 100 = .ok (.bipush 40, 2) := by decide +kernel
theorem dX13_on_102 : decode cX13_on 102 = .ok (.isub, 1) := by decide +kernel
theorem dX13_on_103 : decode cX13_on 103 = .ok (.iaload, 1) := by decide +kernel
theorem dX13_on_104 : decode cX13_on 104 = .ok (.i2l, 1) := by decide +kernel
theorem dX13_on_105 : decode cX13_on 105 = .ok (.goto 6, 3) := by decide +kernel
theorem dX13_on_108 : decode cX13_on 108 = .ok (.ldc2_w 267, 3) := by decide +kernel
theorem dX13_on_111 : decode cX13_on 111 = .ok (.lreturn, 1) := by decide +kernel
theorem dX13_see_0 : decode cX13_see 0 = .ok (.iload_n 1, 1) := by decide +kernel
theorem dX13_see_1 : decode cX13_see 1 = .ok (.iconst (-1), 1) := by decide +kernel
theorem dX13_see_2 : decode cX13_see 2 = .ok (.if_icmp .ne 10, 3) := by decide +kernel
theorem dX13_see_5 : decode cX13_see 5 = .ok (.aload_n 0, 1) := by decide +kernel
theorem dX13_see_6 : decode cX13_see 6 = .ok (.iconst 0, 1) := by decide +kernel
theorem dX13_see_7 : decode cX13_see 7 = .ok (.putfield 367, 3) := by decide +kernel
theorem dX13_see_10 : decode cX13_see 10 = .ok (.iconst 0, 1) := by decide +kernel
theorem dX13_see_11 : decode cX13_see 11 = .ok (.ireturn, 1) := by decide +kernel
theorem dX13_see_12 : decode cX13_see 12 = .ok (.iload_n 1, 1) := by decide +kernel
theorem dX13_see_13 : decode cX13_see 13 = .ok (.i2l, 1) := by decide +kernel
theorem dX13_see_14 : decode cX13_see 14 = .ok (.lconst 0, 1) := by decide +kernel
theorem dX13_see_15 : decode cX13_see 15 = .ok (.ldc2_w 370, 3) := by decide +kernel
theorem dX13_see_18 : decode cX13_see 18 = .ok (.invokestatic 177, 3) := by decide +kernel
theorem dX13_see_21 : decode cX13_see 21 = .ok (.ifCond .ne 6, 3) := by decide +kernel
theorem dX13_see_24 : decode cX13_see 24 = .ok (.bipush (-2), 2) := by decide +kernel
theorem dX13_see_26 : decode cX13_see 26 = .ok (.ireturn, 1) := by decide +kernel
theorem dX13_see_27 : decode cX13_see 27 = .ok (.aload_n 0, 1) := by decide +kernel
theorem dX13_see_28 : decode cX13_see 28 = .ok (.getfield 367, 3) := by decide +kernel
theorem dX13_see_31 : decode cX13_see 31 = .ok (.iconst 5, 1) := by decide +kernel
theorem dX13_see_32 : decode cX13_see 32 = .ok (.if_icmp .ne 6, 3) := by decide +kernel
theorem dX13_see_35 : decode cX13_see 35 = .ok (.bipush (-4), 2) := by decide +kernel
theorem dX13_see_37 : decode cX13_see 37 = .ok (.ireturn, 1) := by decide +kernel
theorem dX13_see_38 : decode cX13_see 38 = .ok (.aload_n 0, 1) := by decide +kernel
theorem dX13_see_39 : decode cX13_see 39 = .ok (.getfield 141, 3) := by decide +kernel
theorem dX13_see_42 : decode cX13_see 42 = .ok (.iconst 2, 1) := by decide +kernel
theorem dX13_see_43 : decode cX13_see 43 = .ok (.aload_n 0, 1) := by decide +kernel
theorem dX13_see_44 : decode cX13_see 44 = .ok (.getfield 367, 3) := by decide +kernel
theorem dX13_see_47 : decode cX13_see 47 = .ok (.imul, 1) := by decide +kernel
theorem dX13_see_48 : decode cX13_see 48 = .ok (.iload_n 1, 1) := by decide +kernel
theorem dX13_see_49 : decode cX13_see 49 = .ok (.iastore, 1) := by decide +kernel
theorem dX13_see_50 : decode cX13_see 50 = .ok (.aload_n 0, 1) := by decide +kernel
theorem dX13_see_51 : decode cX13_see 51 = .ok (.getfield 141, 3) := by decide +kernel
theorem dX13_see_54 : decode cX13_see 54 = .ok (.iconst 2, 1) := by decide +kernel
theorem dX13_see_55 : decode cX13_see 55 = .ok (.aload_n 0, 1) := by decide +kernel
theorem dX13_see_56 : decode cX13_see 56 = .ok (.getfield 367, 3) := by decide +kernel
theorem dX13_see_59 : decode cX13_see 59 = .ok (.imul, 1) := by decide +kernel
theorem dX13_see_60 : decode cX13_see 60 = .ok (.iconst 1, 1) := by decide +kernel
theorem dX13_see_61 : decode cX13_see 61 = .ok (.iadd, 1) := by decide +kernel
theorem dX13_see_62 : decode cX13_see 62 = .ok (.iload_n 2, 1) := by decide +kernel
theorem dX13_see_63 : decode cX13_see 63 = .ok (.iastore, 1) := by decide +kernel
theorem dX13_see_64 : decode cX13_see 64 = .ok (.aload_n 0, 1) := by decide +kernel
theorem dX13_see_65 : decode cX13_see 65 = .ok (.dup, 1) := by decide +kernel
theorem dX13_see_66 : decode cX13_see 66 = .ok (.getfield 367, 3) := by decide +kernel
theorem dX13_see_69 : decode cX13_see 69 = .ok (.iconst 1, 1) := by decide +kernel
theorem dX13_see_70 : decode cX13_see 70 = .ok (.iadd, 1) := by decide +kernel
theorem dX13_see_71 : decode cX13_see 71 = .ok (.putfield 367, 3) := by decide +kernel
theorem dX13_see_74 : decode cX13_see 74 = .ok (.aload_n 0, 1) := by decide +kernel
theorem dX13_see_75 : decode cX13_see 75 = .ok (.getfield 367, 3) := by decide +kernel
theorem dX13_see_78 : decode cX13_see 78 = .ok (.ireturn, 1) := by decide +kernel
theorem dX13_isSeen_0 : decode cX13_isSeen 0 = .ok (.iconst 0, 1) := by decide +kernel
theorem dX13_isSeen_1 : decode cX13_isSeen 1 = .ok (.istore_n 1, 1) := by decide +kernel
theorem dX13_isSeen_2 : decode cX13_isSeen 2 = .ok (.iload_n 1, 1) := by decide +kernel
theorem dX13_isSeen_3 : decode cX13_isSeen 3 = .ok (.aload_n 0, 1) := by decide +kernel
theorem dX13_isSeen_4 : decode cX13_isSeen 4 = .ok (.getfield 367, 3) := by decide +kernel
theorem dX13_isSeen_7 : decode cX13_isSeen 7 = .ok (.if_icmp .ge 52, 3) := by decide +kernel
theorem dX13_isSeen_10 : decode cX13_isSeen 10 = .ok (.aload_n 0, 1) := by decide +kernel
theorem dX13_isSeen_11 : decode cX13_isSeen 11 = .ok (.getfield 141, 3) := by decide +kernel
theorem dX13_isSeen_14 : decode cX13_isSeen 14 = .ok (.iconst 2, 1) := by decide +kernel
theorem dX13_isSeen_15 : decode cX13_isSeen 15 = .ok (.iload_n 1, 1) := by decide +kernel
theorem dX13_isSeen_16 : decode cX13_isSeen 16 = .ok (.imul, 1) := by decide +kernel
theorem dX13_isSeen_17 : decode cX13_isSeen 17 = .ok (.iaload, 1) := by decide +kernel
theorem dX13_isSeen_18 : decode cX13_isSeen 18 = .ok (.aload_n 0, 1) := by decide +kernel
theorem dX13_isSeen_19 : decode cX13_isSeen 19 = .ok (.getfield 269, 3) := by decide +kernel
theorem dX13_isSeen_22 : decode cX13_isSeen 22 = .ok (.if_icmp .ge 29, 3) := by decide +kernel
theorem dX13_isSeen_25 : decode cX13_isSeen 25 = .ok (.aload_n 0, 1) := by decide +kernel
theorem dX13_isSeen_26 : decode cX13_isSeen 26 = .ok (.getfield 117, 3) := by decide +kernel
theorem dX13_isSeen_29 : decode cX13_isSeen 29 = .ok (.aload_n 0, 1) := by decide +kernel
theorem dX13_isSeen_30 : decode cX13_isSeen 30 = .ok (.getfield 141, 3) := by decide +kernel
theorem dX13_isSeen_33 : decode cX13_isSeen 33 = .ok (.iconst 2, 1) := by decide +kernel
theorem dX13_isSeen_34 : decode cX13_isSeen 34 = .ok (.iload_n 1, 1) := by decide +kernel
theorem dX13_isSeen_35 : decode cX13_isSeen 35 = .ok (.imul, 1) := by decide +kernel
theorem dX13_isSeen_36 : decode cX13_isSeen 36 = .ok (.iaload, 1) := by decide +kernel
theorem dX13_isSeen_37 : decode cX13_isSeen 37 = .ok (.iaload, 1) := by decide +kernel
theorem dX13_isSeen_38 : decode cX13_isSeen 38 = .ok (.aload_n 0, 1) := by decide +kernel
theorem dX13_isSeen_39 : decode cX13_isSeen 39 = .ok (.getfield 141, 3) := by decide +kernel
theorem dX13_isSeen_42 : decode cX13_isSeen 42 = .ok (.iconst 2, 1) := by decide +kernel
theorem dX13_isSeen_43 : decode cX13_isSeen 43 = .ok (.iload_n 1, 1) := by decide +kernel
theorem dX13_isSeen_44 : decode cX13_isSeen 44 = .ok (.imul, 1) := by decide +kernel
theorem dX13_isSeen_45 : decode cX13_isSeen 45 = .ok (.iconst 1, 1) := by decide +kernel
theorem dX13_isSeen_46 : decode cX13_isSeen 46 = .ok (.iadd, 1) := by decide +kernel
theorem dX13_isSeen_47 : decode cX13_isSeen 47 = .ok (.iaload, 1) := by decide +kernel
theorem dX13_isSeen_48 : decode cX13_isSeen 48 = .ok (.if_icmp .eq 5, 3) := by decide +kernel
theorem dX13_isSeen_51 : decode cX13_isSeen 51 = .ok (.iconst 0, 1) := by decide +kernel
theorem dX13_isSeen_52 : decode cX13_isSeen 52 = .ok (.ireturn, 1) := by decide +kernel
theorem dX13_isSeen_53 : decode cX13_isSeen 53 = .ok (.iinc 1 1, 3) := by decide +kernel
theorem dX13_isSeen_56 : decode cX13_isSeen 56 = .ok (.goto (-54), 3) := by decide +kernel
theorem dX13_isSeen_59 : decode cX13_isSeen 59 = .ok (.iconst 1, 1) := by decide +kernel
theorem dX13_isSeen_60 : decode cX13_isSeen 60 = .ok (.ireturn, 1) := by decide +kernel
theorem dX13_isName_0 : decode cX13_isName 0 = .ok (.iload_n 0, 1) := by decide +kernel
theorem dX13_isName_1 : decode cX13_isName 1 = .ok (.i2l, 1) := by decide +kernel
theorem dX13_isName_2 : decode cX13_isName 2 = .ok (.lconst 0, 1) := by decide +kernel
theorem dX13_isName_3 : decode cX13_isName 3 = .ok (.ldc2_w 265, 3) := by decide +kernel
theorem dX13_isName_6 : decode cX13_isName 6 = .ok (.invokestatic 177, 3) := by decide +kernel
theorem dX13_isName_9 : decode cX13_isName 9 = .ok (.ireturn, 1) := by decide +kernel
theorem dX13_fits_0 : decode cX13_fits 0 = .ok (.aload_n 0, 1) := by decide +kernel
theorem dX13_fits_1 : decode cX13_fits 1 = .ok (.iload_n 1, 1) := by decide +kernel
theorem dX13_fits_2 : decode cX13_fits 2 = .ok (.invokevirtual 260, 3) := by decide +kernel
theorem dX13_fits_5 : decode cX13_fits 5 = .ok (.ifCond .eq 20, 3) := by decide +kernel
theorem dX13_fits_8 : decode cX13_fits 8 = .ok (.iload_n 2, 1) := by decide +kernel
theorem dX13_fits_9 : decode cX13_fits 9 = .ok (.invokestatic 372, 3) := by decide +kernel
theorem dX13_fits_12 : decode cX13_fits 12 = .ok (.ifCond .eq 13, 3) := by decide +kernel
theorem dX13_fits_15 : decode cX13_fits 15 = .ok (.iload_n 3, 1) := by decide +kernel
theorem dX13_fits_16 : decode cX13_fits 16 = .ok (.i2l, 1) := by decide +kernel
theorem dX13_fits_17 : decode cX13_fits 17 = .ok (.lconst 0, 1) := by decide +kernel
theorem dX13_fits_18 : decode cX13_fits 18 = .ok (.lconst 1, 1) := by decide +kernel
theorem dX13_fits_19 : decode cX13_fits 19 = .ok (.invokestatic 177, 3) := by decide +kernel
theorem dX13_fits_22 : decode cX13_fits 22 = .ok (.ifCond .ne 5, 3) := by decide +kernel
theorem dX13_fits_25 : decode cX13_fits 25 = .ok (.iconst (-1), 1) := by decide +kernel
theorem dX13_fits_26 : decode cX13_fits 26 = .ok (.ireturn, 1) := by decide +kernel
theorem dX13_fits_27 : decode cX13_fits 27 = .ok (.aload_n 0, 1) := by decide +kernel
theorem dX13_fits_28 : decode cX13_fits 28 = .ok (.getfield 79, 3) := by decide +kernel
theorem dX13_fits_31 : decode cX13_fits 31 = .ok (.iload_n 2, 1) := by decide +kernel
theorem dX13_fits_32 : decode cX13_fits 32 = .ok (.iaload, 1) := by decide +kernel
theorem dX13_fits_33 : decode cX13_fits 33 = .ok (.istore 4, 2) := by decide +kernel
theorem dX13_fits_35 : decode cX13_fits 35 = .ok (.iconst 0, 1) := by decide +kernel
theorem dX13_fits_36 : decode cX13_fits 36 = .ok (.istore 5, 2) := by decide +kernel
theorem dX13_fits_38 : decode cX13_fits 38 = .ok (.bipush (-5), 2) := by decide +kernel
theorem dX13_fits_40 : decode cX13_fits 40 = .ok (.istore 6, 2) := by decide +kernel
theorem dX13_fits_42 : decode cX13_fits 42 = .ok (.bipush 19, 2) := by decide +kernel
theorem dX13_fits_44 : decode cX13_fits 44 = .ok (.istore 7, 2) := by decide +kernel
theorem dX13_fits_46 : decode cX13_fits 46 = .ok (.iload 7, 2) := by decide +kernel
theorem dX13_fits_48 : decode cX13_fits 48 = .ok (.ifCond .lt 36, 3) := by decide +kernel
theorem dX13_fits_51 : decode cX13_fits 51 = .ok (.aload_n 0, 1) := by decide +kernel
theorem dX13_fits_52 : decode cX13_fits 52 = .ok (.getfield 79, 3) := by decide +kernel
theorem dX13_fits_55 : decode cX13_fits 55 = .ok (.iload_n 2, 1) := by decide +kernel
theorem dX13_fits_56 : decode cX13_fits 56 = .ok (.iload 7, 2) := by decide +kernel
theorem dX13_fits_58 : decode cX13_fits 58 = .ok (.iastore, 1) := by decide +kernel
theorem dX13_fits_59 : decode cX13_fits 59 = .ok (.aload_n 0, 1) := by decide +kernel
theorem dX13_fits_60 : decode cX13_fits 60 = .ok (.iload_n 1, 1) := by decide +kernel
theorem dX13_fits_61 : decode cX13_fits 61 = .ok (.invokevirtual 364, 3) := by decide +kernel
theorem dX13_fits_64 : decode cX13_fits 64 = .ok (.aload_n 0, 1) := by decide +kernel
theorem dX13_fits_65 : decode cX13_fits 65 = .ok (.invokevirtual 375, 3) := by decide +kernel
theorem dX13_fits_68 : decode cX13_fits 68 = .ok (.ifCond .eq 10, 3) := by decide +kernel
theorem dX13_fits_71 : decode cX13_fits 71 = .ok (.iinc 5 1, 3) := by decide +kernel
theorem dX13_fits_74 : decode cX13_fits 74 = .ok (.iload 7, 2) := by decide +kernel
theorem dX13_fits_76 : decode cX13_fits 76 = .ok (.istore 6, 2) := by decide +kernel
theorem dX13_fits_78 : decode cX13_fits 78 = .ok (.iinc 7 (-1), 3) := by decide +kernel
theorem dX13_fits_81 : decode cX13_fits 81 = .ok (.goto (-35), 3) := by decide +kernel
theorem dX13_fits_84 : decode cX13_fits 84 = .ok (.aload_n 0, 1) := by decide +kernel
theorem dX13_fits_85 : decode cX13_fits 85 = .ok (.getfield 79, 3) := by decide +kernel
theorem dX13_fits_88 : decode cX13_fits 88 = .ok (.iload_n 2, 1) := by decide +kernel
theorem dX13_fits_89 : decode cX13_fits 89 = .ok (.iload 4, 2) := by decide +kernel
theorem dX13_fits_91 : decode cX13_fits 91 = .ok (.iastore, 1) := by decide +kernel
theorem dX13_fits_92 : decode cX13_fits 92 = .ok (.iload_n 3, 1) := by decide +kernel
theorem dX13_fits_93 : decode cX13_fits 93 = .ok (.ifCond .ne 8, 3) := by decide +kernel
theorem dX13_fits_96 : decode cX13_fits 96 = .ok (.iload 5, 2) := by decide +kernel
theorem dX13_fits_98 : decode cX13_fits 98 = .ok (.goto 5, 3) := by decide +kernel
theorem dX13_fits_101 : decode cX13_fits 101 = .ok (.iload 6, 2) := by decide +kernel
theorem dX13_fits_103 : decode cX13_fits 103 = .ok (.ireturn, 1) := by decide +kernel
theorem dX13_alike_0 : decode cX13_alike 0 = .ok (.aload_n 0, 1) := by decide +kernel
theorem dX13_alike_1 : decode cX13_alike 1 = .ok (.iload_n 1, 1) := by decide +kernel
theorem dX13_alike_2 : decode cX13_alike 2 = .ok (.invokevirtual 260, 3) := by decide +kernel
theorem dX13_alike_5 : decode cX13_alike 5 = .ok (.ifCond .eq 11, 3) := by decide +kernel
theorem dX13_alike_8 : decode cX13_alike 8 = .ok (.aload_n 0, 1) := by decide +kernel
theorem dX13_alike_9 : decode cX13_alike 9 = .ok (.iload_n 2, 1) := by decide +kernel
theorem dX13_alike_10 : decode cX13_alike 10 = .ok (.invokevirtual 260, 3) := by decide +kernel
theorem dX13_alike_13 : decode cX13_alike 13 = .ok (.ifCond .ne 5, 3) := by decide +kernel
theorem dX13_alike_16 : decode cX13_alike 16 = .ok (.iconst (-1), 1) := by decide +kernel
theorem dX13_alike_17 : decode cX13_alike 17 = .ok (.ireturn, 1) := by decide +kernel
theorem dX13_alike_18 : decode cX13_alike 18 = .ok (.aload_n 0, 1) := by decide +kernel
theorem dX13_alike_19 : decode cX13_alike 19 = .ok (.iload_n 1, 1) := by decide +kernel
theorem dX13_alike_20 : decode cX13_alike 20 = .ok (.invokevirtual 364, 3) := by decide +kernel
theorem dX13_alike_23 : decode cX13_alike 23 = .ok (.aload_n 0, 1) := by decide +kernel
theorem dX13_alike_24 : decode cX13_alike 24 = .ok (.getfield 117, 3) := by decide +kernel
theorem dX13_alike_27 : decode cX13_alike 27 = .ok (.aload_n 0, 1) := by decide +kernel
theorem dX13_alike_28 : decode cX13_alike 28 = .ok (.getfield 144, 3) := by decide +kernel
theorem dX13_alike_31 : decode cX13_alike 31 = .ok (.invokestatic 336, 3) := by decide +kernel
theorem dX13_alike_34 : decode cX13_alike 34 = .ok (.aload_n 0, 1) := by decide +kernel
theorem dX13_alike_35 : decode cX13_alike 35 = .ok (.getfield 269, 3) := by decide +kernel
theorem dX13_alike_38 : decode cX13_alike 38 = .ok (.istore_n 3, 1) := by decide +kernel
theorem dX13_alike_39 : decode cX13_alike 39 = .ok (.aload_n 0, 1) := by decide +kernel
theorem dX13_alike_40 : decode cX13_alike 40 = .ok (.getfield 329, 3) := by decide +kernel
theorem dX13_alike_43 : decode cX13_alike 43 = .ok (.istore 4, 2) := by decide +kernel
theorem dX13_alike_45 : decode cX13_alike 45 = .ok (.aload_n 0, 1) := by decide +kernel
theorem dX13_alike_46 : decode cX13_alike 46 = .ok (.iload_n 2, 1) := by decide +kernel
theorem dX13_alike_47 : decode cX13_alike 47 = .ok (.invokevirtual 364, 3) := by decide +kernel
theorem dX13_alike_50 : decode cX13_alike 50 = .ok (.iload_n 3, 1) := by decide +kernel
theorem dX13_alike_51 : decode cX13_alike 51 = .ok (.aload_n 0, 1) := by decide +kernel
theorem dX13_alike_52 : decode cX13_alike 52 = .ok (.getfield 269, 3) := by decide +kernel
theorem dX13_alike_55 : decode cX13_alike 55 = .ok (.if_icmp .ne 16, 3) := by decide +kernel
theorem dX13_alike_58 : decode cX13_alike 58 = .ok (.iload 4, 2) := by decide +kernel
theorem dX13_alike_60 : decode cX13_alike 60 = .ok (.aload_n 0, 1) := by decide +kernel
theorem dX13_alike_61 : decode cX13_alike 61 = .ok (.getfield 329, 3) := by decide +kernel
theorem dX13_alike_64 : decode cX13_alike 64 = .ok (.if_icmp .ne 7, 3) := by decide +kernel
theorem dX13_alike_67 : decode cX13_alike 67 = .ok (.iconst 1, 1) := by decide +kernel
theorem dX13_alike_68 : decode cX13_alike 68 = .ok (.goto 4, 3) := by decide +kernel
theorem dX13_alike_71 : decode cX13_alike 71 = .ok (.iconst 0, 1) := by decide +kernel
theorem dX13_alike_72 : decode cX13_alike 72 = .ok (.istore 5, 2) := by decide +kernel
theorem dX13_alike_74 : decode cX13_alike 74 = .ok (.iconst 0, 1) := by decide +kernel
theorem dX13_alike_75 : decode cX13_alike 75 = .ok (.istore 6, 2) := by decide +kernel
theorem dX13_alike_77 : decode cX13_alike 77 = .ok (.iload 6, 2) := by decide +kernel
theorem dX13_alike_79 : decode cX13_alike 79 = .ok (.iload_n 3, 1) := by decide +kernel
theorem dX13_alike_80 : decode cX13_alike 80 = .ok (.if_icmp .ge 38, 3) := by decide +kernel
theorem dX13_alike_83 : decode cX13_alike 83 = .ok (.iload 5, 2) := by decide +kernel
theorem dX13_alike_85 : decode cX13_alike 85 = .ok (.ifCond .eq 33, 3) := by decide +kernel
theorem dX13_alike_88 : decode cX13_alike 88 = .ok (.aload_n 0, 1) := by decide +kernel
theorem dX13_alike_89 : decode cX13_alike 89 = .ok (.getfield 117, 3) := by decide +kernel
theorem dX13_alike_92 : decode cX13_alike 92 = .ok (.iload 6, 2) := by decide +kernel
theorem dX13_alike_94 : decode cX13_alike 94 = .ok (.iaload, 1) := by decide +kernel
theorem dX13_alike_95 : decode cX13_alike 95 = .ok (.aload_n 0, 1) := by decide +kernel
theorem dX13_alike_96 : decode cX13_alike 96 = .ok (.getfield 144, 3) := by decide +kernel
theorem dX13_alike_99 : decode cX13_alike 99 = .ok (.iload 6, 2) := by decide +kernel
theorem dX13_alike_101 : decode cX13_alike 101 = .ok (.iaload, 1) := by decide +kernel
theorem dX13_alike_102 : decode cX13_alike 102 = .ok (.if_icmp .ne 7, 3) := by decide +kernel
theorem dX13_alike_105 : decode cX13_alike 105 = .ok (.iconst 1, 1) := by decide +kernel
theorem dX13_alike_106 : decode cX13_alike 106 = .ok (.goto 4, 3) := by decide +kernel
theorem dX13_alike_109 : decode cX13_alike 109 = .ok (.iconst 0, 1) := by decide +kernel
theorem dX13_alike_110 : decode cX13_alike 110 = .ok (.istore 5, 2) := by decide +kernel
theorem dX13_alike_112 : decode cX13_alike 112 = .ok (.iinc 6 1, 3) := by decide +kernel
theorem dX13_alike_115 : decode cX13_alike 115 = .ok (.goto (-38), 3) := by decide +kernel
theorem dX13_alike_118 : decode cX13_alike 118 = .ok (.iload 5, 2) := by decide +kernel
theorem dX13_alike_120 : decode cX13_alike 120 = .ok (.ifCond .eq 7, 3) := by decide +kernel
theorem dX13_alike_123 : decode cX13_alike 123 = .ok (.iconst 1, 1) := by decide +kernel
theorem dX13_alike_124 : decode cX13_alike 124 = .ok (.goto 4, 3) := by decide +kernel
theorem dX13_alike_127 : decode cX13_alike 127 = .ok (.iconst 0, 1) := by decide +kernel
theorem dX13_alike_128 : decode cX13_alike 128 = .ok (.ireturn, 1) := by decide +kernel
theorem dX13_lowest_0 : decode cX13_lowest 0 = .ok (.lload_n 0, 1) := by decide +kernel
theorem dX13_lowest_1 : decode cX13_lowest 1 = .ok (.lconst 0, 1) := by decide +kernel
theorem dX13_lowest_2 : decode cX13_lowest 2 = .ok (.lcmp, 1) := by decide +kernel
theorem dX13_lowest_3 : decode cX13_lowest 3 = .ok (.ifCond .ge 8, 3) := by decide +kernel
theorem dX13_lowest_6 : decode cX13_lowest 6 = .ok (.lload_n 0, 1) := by decide +kernel
theorem dX13_lowest_7 : decode cX13_lowest 7 = .ok (.lneg, 1) := by decide +kernel
theorem dX13_lowest_8 : decode cX13_lowest 8 = .ok (.goto 4, 3) := by decide +kernel
theorem dX13_lowest_11 : decode cX13_lowest 11 = .ok (.lload_n 0, 1) := by decide +kernel
theorem dX13_lowest_12 : decode cX13_lowest 12 = .ok (.lstore 5, 2) := by decide +kernel
theorem dX13_lowest_14 : decode cX13_lowest 14 = .ok (.lload_n 2, 1) := by decide +kernel
theorem dX13_lowest_15 : decode cX13_lowest 15 = .ok (.lstore 7, 2) := by decide +kernel
theorem dX13_lowest_17 : decode cX13_lowest 17 = .ok (.lload 7, 2) := by decide +kernel
theorem dX13_lowest_19 : decode cX13_lowest 19 = .ok (.lconst 0, 1) := by decide +kernel
theorem dX13_lowest_20 : decode cX13_lowest 20 = .ok (.lcmp, 1) := by decide +kernel
theorem dX13_lowest_21 : decode cX13_lowest 21 = .ok (.ifCond .eq 21, 3) := by decide +kernel
theorem dX13_lowest_24 : decode cX13_lowest 24 = .ok (.lload 5, 2) := by decide +kernel
theorem dX13_lowest_26 : decode cX13_lowest 26 = .ok (.lload 7, 2) := by decide +kernel
theorem dX13_lowest_28 : decode cX13_lowest 28 = .ok (.lrem, 1) := by decide +kernel
theorem dX13_lowest_29 : decode cX13_lowest 29 = .ok (.lstore 9, 2) := by decide +kernel
theorem dX13_lowest_31 : decode cX13_lowest 31 = .ok (.lload 7, 2) := by decide +kernel
theorem dX13_lowest_33 : decode cX13_lowest 33 = .ok (.lstore 5, 2) := by decide +kernel
theorem dX13_lowest_35 : decode cX13_lowest 35 = .ok (.lload 9, 2) := by decide +kernel
theorem dX13_lowest_37 : decode cX13_lowest 37 = .ok (.lstore 7, 2) := by decide +kernel
theorem dX13_lowest_39 : decode cX13_lowest 39 = .ok (.goto (-22), 3) := by decide +kernel
theorem dX13_lowest_42 : decode cX13_lowest 42 = .ok (.iload 4, 2) := by decide +kernel
theorem dX13_lowest_44 : decode cX13_lowest 44 = .ok (.ifCond .ne 7, 3) := by decide +kernel
theorem dX13_lowest_47 : decode cX13_lowest 47 = .ok (.lload_n 0, 1) := by decide +kernel
theorem dX13_lowest_48 : decode cX13_lowest 48 = .ok (.goto 4, 3) := by decide +kernel
theorem dX13_lowest_51 : decode cX13_lowest 51 = .ok (.lload_n 2, 1) := by decide +kernel
theorem dX13_lowest_52 : decode cX13_lowest 52 = .ok (.lload 5, 2) := by decide +kernel
theorem dX13_lowest_54 : decode cX13_lowest 54 = .ok (.ldiv, 1) := by decide +kernel
theorem dX13_lowest_55 : decode cX13_lowest 55 = .ok (.lreturn, 1) := by decide +kernel
theorem dX13_odds_0 : decode cX13_odds 0 = .ok (.aload_n 0, 1) := by decide +kernel
theorem dX13_odds_1 : decode cX13_odds 1 = .ok (.iload_n 1, 1) := by decide +kernel
theorem dX13_odds_2 : decode cX13_odds 2 = .ok (.invokevirtual 260, 3) := by decide +kernel
theorem dX13_odds_5 : decode cX13_odds 5 = .ok (.ifCond .eq 20, 3) := by decide +kernel
theorem dX13_odds_8 : decode cX13_odds 8 = .ok (.iload_n 2, 1) := by decide +kernel
theorem dX13_odds_9 : decode cX13_odds 9 = .ok (.invokestatic 372, 3) := by decide +kernel
theorem dX13_odds_12 : decode cX13_odds 12 = .ok (.ifCond .eq 13, 3) := by decide +kernel
theorem dX13_odds_15 : decode cX13_odds 15 = .ok (.iload_n 3, 1) := by decide +kernel
theorem dX13_odds_16 : decode cX13_odds 16 = .ok (.i2l, 1) := by decide +kernel
theorem dX13_odds_17 : decode cX13_odds 17 = .ok (.lconst 0, 1) := by decide +kernel
theorem dX13_odds_18 : decode cX13_odds 18 = .ok (.lconst 1, 1) := by decide +kernel
theorem dX13_odds_19 : decode cX13_odds 19 = .ok (.invokestatic 177, 3) := by decide +kernel
theorem dX13_odds_22 : decode cX13_odds 22 = .ok (.ifCond .ne 7, 3) := by decide +kernel
theorem dX13_odds_25 : decode cX13_odds 25 = .ok (.ldc2_w 267, 3) := by decide +kernel
theorem dX13_odds_28 : decode cX13_odds 28 = .ok (.lreturn, 1) := by decide +kernel
theorem dX13_odds_29 : decode cX13_odds 29 = .ok (.aload_n 0, 1) := by decide +kernel
theorem dX13_odds_30 : decode cX13_odds 30 = .ok (.getfield 79, 3) := by decide +kernel
theorem dX13_odds_33 : decode cX13_odds 33 = .ok (.iload_n 2, 1) := by decide +kernel
theorem dX13_odds_34 : decode cX13_odds 34 = .ok (.iaload, 1) := by decide +kernel
theorem dX13_odds_35 : decode cX13_odds 35 = .ok (.istore 4, 2) := by decide +kernel
theorem dX13_odds_37 : decode cX13_odds 37 = .ok (.lconst 0, 1) := by decide +kernel
theorem dX13_odds_38 : decode cX13_odds 38 = .ok (.lstore 5, 2) := by decide +kernel
theorem dX13_odds_40 : decode cX13_odds 40 = .ok (.iconst 0, 1) := by decide +kernel
theorem dX13_odds_41 : decode cX13_odds 41 = .ok (.istore 7, 2) := by decide +kernel
theorem dX13_odds_43 : decode cX13_odds 43 = .ok (.iload 7, 2) := by decide +kernel
theorem dX13_odds_45 : decode cX13_odds 45 = .ok (.bipush 10, 2) := by decide +kernel
theorem dX13_odds_47 : decode cX13_odds 47 = .ok (.if_icmp .ge 39, 3) := by decide +kernel
theorem dX13_odds_50 : decode cX13_odds 50 = .ok (.aload_n 0, 1) := by decide +kernel
theorem dX13_odds_51 : decode cX13_odds 51 = .ok (.getfield 79, 3) := by decide +kernel
theorem dX13_odds_54 : decode cX13_odds 54 = .ok (.iload_n 2, 1) := by decide +kernel
theorem dX13_odds_55 : decode cX13_odds 55 = .ok (.iload 7, 2) := by decide +kernel
theorem dX13_odds_57 : decode cX13_odds 57 = .ok (.iastore, 1) := by decide +kernel
theorem dX13_odds_58 : decode cX13_odds 58 = .ok (.aload_n 0, 1) := by decide +kernel
theorem dX13_odds_59 : decode cX13_odds 59 = .ok (.iload_n 1, 1) := by decide +kernel
theorem dX13_odds_60 : decode cX13_odds 60 = .ok (.invokevirtual 364, 3) := by decide +kernel
theorem dX13_odds_63 : decode cX13_odds 63 = .ok (.lload 5, 2) := by decide +kernel
theorem dX13_odds_65 : decode cX13_odds 65 = .ok (.aload_n 0, 1) := by decide +kernel
theorem dX13_odds_66 : decode cX13_odds 66 = .ok (.getfield 329, 3) := by decide +kernel
theorem dX13_odds_69 : decode cX13_odds 69 = .ok (.ifCond .ne 7, 3) := by decide +kernel
theorem dX13_odds_72 : decode cX13_odds 72 = .ok (.lconst 1, 1) := by decide +kernel
theorem dX13_odds_73 : decode cX13_odds 73 = .ok (.goto 4, 3) := by decide +kernel
theorem dX13_odds_76 : decode cX13_odds 76 = .ok (.lconst 0, 1) := by decide +kernel
theorem dX13_odds_77 : decode cX13_odds 77 = .ok (.ladd, 1) := by decide +kernel
theorem dX13_odds_78 : decode cX13_odds 78 = .ok (.lstore 5, 2) := by decide +kernel
theorem dX13_odds_80 : decode cX13_odds 80 = .ok (.iinc 7 1, 3) := by decide +kernel
theorem dX13_odds_83 : decode cX13_odds 83 = .ok (.goto (-40), 3) := by decide +kernel
theorem dX13_odds_86 : decode cX13_odds 86 = .ok (.aload_n 0, 1) := by decide +kernel
theorem dX13_odds_87 : decode cX13_odds 87 = .ok (.getfield 79, 3) := by decide +kernel
theorem dX13_odds_90 : decode cX13_odds 90 = .ok (.iload_n 2, 1) := by decide +kernel
theorem dX13_odds_91 : decode cX13_odds 91 = .ok (.iload 4, 2) := by decide +kernel
theorem dX13_odds_93 : decode cX13_odds 93 = .ok (.iastore, 1) := by decide +kernel
theorem dX13_odds_94 : decode cX13_odds 94 = .ok (.lload 5, 2) := by decide +kernel
theorem dX13_odds_96 : decode cX13_odds 96 = .ok (.ldc2_w 349, 3) := by decide +kernel
theorem dX13_odds_99 : decode cX13_odds 99 = .ok (.iload_n 3, 1) := by decide +kernel
theorem dX13_odds_100 : decode cX13_odds 100 = .ok (.invokestatic 379, 3) := by decide +kernel
theorem dX13_odds_103 : decode cX13_odds 103 = .ok (.lreturn, 1) := by decide +kernel
theorem dX13_mean_0 : decode cX13_mean 0 = .ok (.aload_n 0, 1) := by decide +kernel
theorem dX13_mean_1 : decode cX13_mean 1 = .ok (.iload_n 1, 1) := by decide +kernel
theorem dX13_mean_2 : decode cX13_mean 2 = .ok (.invokevirtual 260, 3) := by decide +kernel
theorem dX13_mean_5 : decode cX13_mean 5 = .ok (.ifCond .eq 13, 3) := by decide +kernel
theorem dX13_mean_8 : decode cX13_mean 8 = .ok (.iload_n 2, 1) := by decide +kernel
theorem dX13_mean_9 : decode cX13_mean 9 = .ok (.i2l, 1) := by decide +kernel
theorem dX13_mean_10 : decode cX13_mean 10 = .ok (.lconst 0, 1) := by decide +kernel
theorem dX13_mean_11 : decode cX13_mean 11 = .ok (.lconst 1, 1) := by decide +kernel
theorem dX13_mean_12 : decode cX13_mean 12 = .ok (.invokestatic 177, 3) := by decide +kernel
theorem dX13_mean_15 : decode cX13_mean 15 = .ok (.ifCond .ne 7, 3) := by decide +kernel
theorem dX13_mean_18 : decode cX13_mean 18 = .ok (.ldc2_w 267, 3) := by decide +kernel
theorem dX13_mean_21 : decode cX13_mean 21 = .ok (.lreturn, 1) := by decide +kernel
theorem dX13_mean_22 : decode cX13_mean 22 = .ok (.aload_n 0, 1) := by decide +kernel
theorem dX13_mean_23 : decode cX13_mean 23 = .ok (.iload_n 1, 1) := by decide +kernel
theorem dX13_mean_24 : decode cX13_mean 24 = .ok (.invokevirtual 364, 3) := by decide +kernel
theorem dX13_mean_27 : decode cX13_mean 27 = .ok (.lconst 0, 1) := by decide +kernel
theorem dX13_mean_28 : decode cX13_mean 28 = .ok (.lstore_n 3, 1) := by decide +kernel
theorem dX13_mean_29 : decode cX13_mean 29 = .ok (.iconst 0, 1) := by decide +kernel
theorem dX13_mean_30 : decode cX13_mean 30 = .ok (.istore 5, 2) := by decide +kernel
theorem dX13_mean_32 : decode cX13_mean 32 = .ok (.iload 5, 2) := by decide +kernel
theorem dX13_mean_34 : decode cX13_mean 34 = .ok (.aload_n 0, 1) := by decide +kernel
theorem dX13_mean_35 : decode cX13_mean 35 = .ok (.getfield 269, 3) := by decide +kernel
theorem dX13_mean_38 : decode cX13_mean 38 = .ok (.if_icmp .ge 20, 3) := by decide +kernel
theorem dX13_mean_41 : decode cX13_mean 41 = .ok (.lload_n 3, 1) := by decide +kernel
theorem dX13_mean_42 : decode cX13_mean 42 = .ok (.aload_n 0, 1) := by decide +kernel
theorem dX13_mean_43 : decode cX13_mean 43 = .ok (.getfield 117, 3) := by decide +kernel
theorem dX13_mean_46 : decode cX13_mean 46 = .ok (.iload 5, 2) := by decide +kernel
theorem dX13_mean_48 : decode cX13_mean 48 = .ok (.iaload, 1) := by decide +kernel
theorem dX13_mean_49 : decode cX13_mean 49 = .ok (.i2l, 1) := by decide +kernel
theorem dX13_mean_50 : decode cX13_mean 50 = .ok (.ladd, 1) := by decide +kernel
theorem dX13_mean_51 : decode cX13_mean 51 = .ok (.lstore_n 3, 1) := by decide +kernel
theorem dX13_mean_52 : decode cX13_mean 52 = .ok (.iinc 5 1, 3) := by decide +kernel
theorem dX13_mean_55 : decode cX13_mean 55 = .ok (.goto (-23), 3) := by decide +kernel
theorem dX13_mean_58 : decode cX13_mean 58 = .ok (.aload_n 0, 1) := by decide +kernel
theorem dX13_mean_59 : decode cX13_mean 59 = .ok (.getfield 269, 3) := by decide +kernel
theorem dX13_mean_62 : decode cX13_mean 62 = .ok (.ifCond .ne 9, 3) := by decide +kernel
theorem dX13_mean_65 : decode cX13_mean 65 = .ok (.ldc2_w 267, 3) := by decide +kernel
theorem dX13_mean_68 : decode cX13_mean 68 = .ok (.goto 13, 3) := by decide +kernel
theorem dX13_mean_71 : decode cX13_mean 71 = .ok (.lload_n 3, 1) := by decide +kernel
theorem dX13_mean_72 : decode cX13_mean 72 = .ok (.aload_n 0, 1) := by decide +kernel
theorem dX13_mean_73 : decode cX13_mean 73 = .ok (.getfield 269, 3) := by decide +kernel
theorem dX13_mean_76 : decode cX13_mean 76 = .ok (.i2l, 1) := by decide +kernel
theorem dX13_mean_77 : decode cX13_mean 77 = .ok (.iload_n 2, 1) := by decide +kernel
theorem dX13_mean_78 : decode cX13_mean 78 = .ok (.invokestatic 379, 3) := by decide +kernel
theorem dX13_mean_81 : decode cX13_mean 81 = .ok (.lreturn, 1) := by decide +kernel
theorem dX13_plan_0 : decode cX13_plan 0 = .ok (.iload_n 1, 1) := by decide +kernel
theorem dX13_plan_1 : decode cX13_plan 1 = .ok (.iconst (-1), 1) := by decide +kernel
theorem dX13_plan_2 : decode cX13_plan 2 = .ok (.if_icmp .ne 10, 3) := by decide +kernel
theorem dX13_plan_5 : decode cX13_plan 5 = .ok (.aload_n 0, 1) := by decide +kernel
theorem dX13_plan_6 : decode cX13_plan 6 = .ok (.iconst 0, 1) := by decide +kernel
theorem dX13_plan_7 : decode cX13_plan 7 = .ok (.putfield 383, 3) := by decide +kernel
theorem dX13_plan_10 : decode cX13_plan 10 = .ok (.iconst 0, 1) := by decide +kernel
theorem dX13_plan_11 : decode cX13_plan 11 = .ok (.ireturn, 1) := by decide +kernel
theorem dX13_plan_12 : decode cX13_plan 12 = .ok (.iload_n 1, 1) := by decide +kernel
theorem dX13_plan_13 : decode cX13_plan 13 = .ok (.ifCond .ne 11, 3) := by decide +kernel
theorem dX13_plan_16 : decode cX13_plan 16 = .ok (.aload_n 0, 1) := by decide +kernel
theorem dX13_plan_17 : decode cX13_plan 17 = .ok (.iload_n 2, 1) := by decide +kernel
theorem dX13_plan_18 : decode cX13_plan 18 = .ok (.invokevirtual 260, 3) := by decide +kernel
theorem dX13_plan_21 : decode cX13_plan 21 = .ok (.ifCond .ne 37, 3) := by decide +kernel
theorem dX13_plan_24 : decode cX13_plan 24 = .ok (.iload_n 1, 1) := by decide +kernel
theorem dX13_plan_25 : decode cX13_plan 25 = .ok (.iconst 1, 1) := by decide +kernel
theorem dX13_plan_26 : decode cX13_plan 26 = .ok (.if_icmp .ne 10, 3) := by decide +kernel
theorem dX13_plan_29 : decode cX13_plan 29 = .ok (.iload_n 2, 1) := by decide +kernel
theorem dX13_plan_30 : decode cX13_plan 30 = .ok (.invokestatic 372, 3) := by decide +kernel
theorem dX13_plan_33 : decode cX13_plan 33 = .ok (.ifCond .ne 25, 3) := by decide +kernel
theorem dX13_plan_36 : decode cX13_plan 36 = .ok (.iload_n 1, 1) := by decide +kernel
theorem dX13_plan_37 : decode cX13_plan 37 = .ok (.iconst 2, 1) := by decide +kernel
theorem dX13_plan_38 : decode cX13_plan 38 = .ok (.if_icmp .ne 15, 3) := by decide +kernel
theorem dX13_plan_41 : decode cX13_plan 41 = .ok (.iload_n 2, 1) := by decide +kernel
theorem dX13_plan_42 : decode cX13_plan 42 = .ok (.i2l, 1) := by decide +kernel
theorem dX13_plan_43 : decode cX13_plan 43 = .ok (.lconst 0, 1) := by decide +kernel
theorem dX13_plan_44 : decode cX13_plan 44 = .ok (.ldc2_w 263, 3) := by decide +kernel
theorem dX13_plan_47 : decode cX13_plan 47 = .ok (.invokestatic 177, 3) := by decide +kernel
theorem dX13_plan_50 : decode cX13_plan 50 = .ok (.ifCond .ne 8, 3) := by decide +kernel
theorem dX13_plan_53 : decode cX13_plan 53 = .ok (.iload_n 1, 1) := by decide +kernel
theorem dX13_plan_54 : decode cX13_plan 54 = .ok (.iconst 3, 1) := by decide +kernel
theorem dX13_plan_55 : decode cX13_plan 55 = .ok (.if_icmp .ne 7, 3) := by decide +kernel
theorem dX13_plan_58 : decode cX13_plan 58 = .ok (.iconst 1, 1) := by decide +kernel
theorem dX13_plan_59 : decode cX13_plan 59 = .ok (.goto 4, 3) := by decide +kernel
theorem dX13_plan_62 : decode cX13_plan 62 = .ok (.iconst 0, 1) := by decide +kernel
theorem dX13_plan_63 : decode cX13_plan 63 = .ok (.istore_n 3, 1) := by decide +kernel
theorem dX13_plan_64 : decode cX13_plan 64 = .ok (.iload_n 3, 1) := by decide +kernel
theorem dX13_plan_65 : decode cX13_plan 65 = .ok (.ifCond .ne 5, 3) := by decide +kernel
theorem dX13_plan_68 : decode cX13_plan 68 = .ok (.iconst (-1), 1) := by decide +kernel
theorem dX13_plan_69 : decode cX13_plan 69 = .ok (.ireturn, 1) := by decide +kernel
theorem dX13_plan_70 : decode cX13_plan 70 = .ok (.aload_n 0, 1) := by decide +kernel
theorem dX13_plan_71 : decode cX13_plan 71 = .ok (.getfield 383, 3) := by decide +kernel
theorem dX13_plan_74 : decode cX13_plan 74 = .ok (.bipush 10, 2) := by decide +kernel
theorem dX13_plan_76 : decode cX13_plan 76 = .ok (.if_icmp .ne 6, 3) := by decide +kernel
theorem dX13_plan_79 : decode cX13_plan 79 = .ok (.bipush (-4), 2) := by decide +kernel
theorem dX13_plan_81 : decode cX13_plan 81 = .ok (.ireturn, 1) := by decide +kernel
theorem dX13_plan_82 : decode cX13_plan 82 = .ok (.aload_n 0, 1) := by decide +kernel
theorem dX13_plan_83 : decode cX13_plan 83 = .ok (.getfield 147, 3) := by decide +kernel
theorem dX13_plan_86 : decode cX13_plan 86 = .ok (.iconst 2, 1) := by decide +kernel
theorem dX13_plan_87 : decode cX13_plan 87 = .ok (.aload_n 0, 1) := by decide +kernel
theorem dX13_plan_88 : decode cX13_plan 88 = .ok (.getfield 383, 3) := by decide +kernel
theorem dX13_plan_91 : decode cX13_plan 91 = .ok (.imul, 1) := by decide +kernel
theorem dX13_plan_92 : decode cX13_plan 92 = .ok (.iload_n 1, 1) := by decide +kernel
theorem dX13_plan_93 : decode cX13_plan 93 = .ok (.iastore, 1) := by decide +kernel
theorem dX13_plan_94 : decode cX13_plan 94 = .ok (.aload_n 0, 1) := by decide +kernel
theorem dX13_plan_95 : decode cX13_plan 95 = .ok (.getfield 147, 3) := by decide +kernel
theorem dX13_plan_98 : decode cX13_plan 98 = .ok (.iconst 2, 1) := by decide +kernel
theorem dX13_plan_99 : decode cX13_plan 99 = .ok (.aload_n 0, 1) := by decide +kernel
theorem dX13_plan_100 : decode cX13_plan 100 = .ok (.getfield 383, 3) := by decide +kernel
theorem dX13_plan_103 : decode cX13_plan 103 = .ok (.imul, 1) := by decide +kernel
theorem dX13_plan_104 : decode cX13_plan 104 = .ok (.iconst 1, 1) := by decide +kernel
theorem dX13_plan_105 : decode cX13_plan 105 = .ok (.iadd, 1) := by decide +kernel
theorem dX13_plan_106 : decode cX13_plan 106 = .ok (.iload_n 2, 1) := by decide +kernel
theorem dX13_plan_107 : decode cX13_plan 107 = .ok (.iastore, 1) := by decide +kernel
theorem dX13_plan_108 : decode cX13_plan 108 = .ok (.aload_n 0, 1) := by decide +kernel
theorem dX13_plan_109 : decode cX13_plan 109 = .ok (.dup, 1) := by decide +kernel
theorem dX13_plan_110 : decode cX13_plan 110 = .ok (.getfield 383, 3) := by decide +kernel
theorem dX13_plan_113 : decode cX13_plan 113 = .ok (.iconst 1, 1) := by decide +kernel
theorem dX13_plan_114 : decode cX13_plan 114 = .ok (.iadd, 1) := by decide +kernel
theorem dX13_plan_115 : decode cX13_plan 115 = .ok (.putfield 383, 3) := by decide +kernel
theorem dX13_plan_118 : decode cX13_plan 118 = .ok (.aload_n 0, 1) := by decide +kernel
theorem dX13_plan_119 : decode cX13_plan 119 = .ok (.getfield 383, 3) := by decide +kernel
theorem dX13_plan_122 : decode cX13_plan 122 = .ok (.ireturn, 1) := by decide +kernel
theorem dX13_ends_0 : decode cX13_ends 0 = .ok (.iload_n 1, 1) := by decide +kernel
theorem dX13_ends_1 : decode cX13_ends 1 = .ok (.invokestatic 372, 3) := by decide +kernel
theorem dX13_ends_4 : decode cX13_ends 4 = .ok (.ifCond .ne 7, 3) := by decide +kernel
theorem dX13_ends_7 : decode cX13_ends 7 = .ok (.ldc2_w 267, 3) := by decide +kernel
theorem dX13_ends_10 : decode cX13_ends 10 = .ok (.lreturn, 1) := by decide +kernel
theorem dX13_ends_11 : decode cX13_ends 11 = .ok (.aload_n 0, 1) := by decide +kernel
theorem dX13_ends_12 : decode cX13_ends 12 = .ok (.getfield 79, 3) := by decide +kernel
theorem dX13_ends_15 : decode cX13_ends 15 = .ok (.aload_n 0, 1) := by decide +kernel
theorem dX13_ends_16 : decode cX13_ends 16 = .ok (.getfield 153, 3) := by decide +kernel
theorem dX13_ends_19 : decode cX13_ends 19 = .ok (.invokestatic 336, 3) := by decide +kernel
theorem dX13_ends_22 : decode cX13_ends 22 = .ok (.aload_n 0, 1) := by decide +kernel
theorem dX13_ends_23 : decode cX13_ends 23 = .ok (.getfield 82, 3) := by decide +kernel
theorem dX13_ends_26 : decode cX13_ends 26 = .ok (.aload_n 0, 1) := by decide +kernel
theorem dX13_ends_27 : decode cX13_ends 27 = .ok (.getfield 156, 3) := by decide +kernel
theorem dX13_ends_30 : decode cX13_ends 30 = .ok (.invokestatic 336, 3) := by decide +kernel
theorem dX13_ends_33 : decode cX13_ends 33 = .ok (.aload_n 0, 1) := by decide +kernel
theorem dX13_ends_34 : decode cX13_ends 34 = .ok (.getfield 85, 3) := by decide +kernel
theorem dX13_ends_37 : decode cX13_ends 37 = .ok (.istore_n 2, 1) := by decide +kernel
theorem dX13_ends_38 : decode cX13_ends 38 = .ok (.iconst 0, 1) := by decide +kernel
theorem dX13_ends_39 : decode cX13_ends 39 = .ok (.istore_n 3, 1) := by decide +kernel
theorem dX13_ends_40 : decode cX13_ends 40 = .ok (.iload_n 3, 1) := by decide +kernel
theorem dX13_ends_41 : decode cX13_ends 41 = .ok (.aload_n 0, 1) := by decide +kernel
theorem dX13_ends_42 : decode cX13_ends 42 = .ok (.getfield 383, 3) := by decide +kernel
theorem dX13_ends_45 : decode cX13_ends 45 = .ok (.if_icmp .ge 94, 3) := by decide +kernel
theorem dX13_ends_48 : decode cX13_ends 48 = .ok (.aload_n 0, 1) := by decide +kernel
theorem dX13_ends_49 : decode cX13_ends 49 = .ok (.getfield 147, 3) := by decide +kernel
theorem dX13_ends_52 : decode cX13_ends 52 = .ok (.iconst 2, 1) := by decide +kernel
theorem dX13_ends_53 : decode cX13_ends 53 = .ok (.iload_n 3, 1) := by decide +kernel
theorem dX13_ends_54 : decode cX13_ends 54 = .ok (.imul, 1) := by decide +kernel
theorem dX13_ends_55 : decode cX13_ends 55 = .ok (.iconst 1, 1) := by decide +kernel
theorem dX13_ends_56 : decode cX13_ends 56 = .ok (.iadd, 1) := by decide +kernel
theorem dX13_ends_57 : decode cX13_ends 57 = .ok (.iaload, 1) := by decide +kernel
theorem dX13_ends_58 : decode cX13_ends 58 = .ok (.istore 4, 2) := by decide +kernel
theorem dX13_ends_60 : decode cX13_ends 60 = .ok (.aload_n 0, 1) := by decide +kernel
theorem dX13_ends_61 : decode cX13_ends 61 = .ok (.getfield 147, 3) := by decide +kernel
theorem dX13_ends_64 : decode cX13_ends 64 = .ok (.iconst 2, 1) := by decide +kernel
theorem dX13_ends_65 : decode cX13_ends 65 = .ok (.iload_n 3, 1) := by decide +kernel
theorem dX13_ends_66 : decode cX13_ends 66 = .ok (.imul, 1) := by decide +kernel
theorem dX13_ends_67 : decode cX13_ends 67 = .ok (.iaload, 1) := by decide +kernel
theorem dX13_ends_68 : decode cX13_ends 68 = .ok (.ifCond .ne 12, 3) := by decide +kernel
theorem dX13_ends_71 : decode cX13_ends 71 = .ok (.aload_n 0, 1) := by decide +kernel
theorem dX13_ends_72 : decode cX13_ends 72 = .ok (.iload 4, 2) := by decide +kernel
theorem dX13_ends_74 : decode cX13_ends 74 = .ok (.invokevirtual 332, 3) := by decide +kernel
theorem dX13_ends_77 : decode cX13_ends 77 = .ok (.goto 56, 3) := by decide +kernel
theorem dX13_ends_80 : decode cX13_ends 80 = .ok (.aload_n 0, 1) := by decide +kernel
theorem dX13_ends_81 : decode cX13_ends 81 = .ok (.getfield 147, 3) := by decide +kernel
theorem dX13_ends_84 : decode cX13_ends 84 = .ok (.iconst 2, 1) := by decide +kernel
theorem dX13_ends_85 : decode cX13_ends 85 = .ok (.iload_n 3, 1) := by decide +kernel
theorem dX13_ends_86 : decode cX13_ends 86 = .ok (.imul, 1) := by decide +kernel
theorem dX13_ends_87 : decode cX13_ends 87 = .ok (.iaload, 1) := by decide +kernel
theorem dX13_ends_88 : decode cX13_ends 88 = .ok (.iconst 1, 1) := by decide +kernel
theorem dX13_ends_89 : decode cX13_ends 89 = .ok (.if_icmp .ne 14, 3) := by decide +kernel
theorem dX13_ends_92 : decode cX13_ends 92 = .ok (.aload_n 0, 1) := by decide +kernel
theorem dX13_ends_93 : decode cX13_ends 93 = .ok (.getfield 79, 3) := by decide +kernel
theorem dX13_ends_96 : decode cX13_ends 96 = .ok (.iload 4, 2) := by decide +kernel
theorem dX13_ends_98 : decode cX13_ends 98 = .ok (.iconst 0, 1) := by decide +kernel
theorem dX13_ends_99 : decode cX13_ends 99 = .ok (.iastore, 1) := by decide +kernel
theorem dX13_ends_100 : decode cX13_ends 100 = .ok (.goto 33, 3) := by decide +kernel
theorem dX13_ends_103 : decode cX13_ends 103 = .ok (.aload_n 0, 1) := by decide +kernel
theorem dX13_ends_104 : decode cX13_ends 104 = .ok (.getfield 147, 3) := by decide +kernel
theorem dX13_ends_107 : decode cX13_ends 107 = .ok (.iconst 2, 1) := by decide +kernel
theorem dX13_ends_108 : decode cX13_ends 108 = .ok (.iload_n 3, 1) := by decide +kernel
theorem dX13_ends_109 : decode cX13_ends 109 = .ok (.imul, 1) := by decide +kernel
theorem dX13_ends_110 : decode cX13_ends 110 = .ok (.iaload, 1) := by decide +kernel
theorem dX13_ends_111 : decode cX13_ends 111 = .ok (.iconst 2, 1) := by decide +kernel
theorem dX13_ends_112 : decode cX13_ends 112 = .ok (.if_icmp .ne 15, 3) := by decide +kernel
theorem dX13_ends_115 : decode cX13_ends 115 = .ok (.aload_n 0, 1) := by decide +kernel
theorem dX13_ends_116 : decode cX13_ends 116 = .ok (.getfield 82, 3) := by decide +kernel
theorem dX13_ends_119 : decode cX13_ends 119 = .ok (.iload 4, 2) := by decide +kernel
theorem dX13_ends_121 : decode cX13_ends 121 = .ok (.bipush (-5), 2) := by decide +kernel
theorem dX13_ends_123 : decode cX13_ends 123 = .ok (.iastore, 1) := by decide +kernel
theorem dX13_ends_124 : decode cX13_ends 124 = .ok (.goto 9, 3) := by decide +kernel
theorem dX13_ends_127 : decode cX13_ends 127 = .ok (.aload_n 0, 1) := by decide +kernel
theorem dX13_ends_128 : decode cX13_ends 128 = .ok (.bipush (-5), 2) := by decide +kernel
theorem dX13_ends_130 : decode cX13_ends 130 = .ok (.putfield 85, 3) := by decide +kernel
theorem dX13_ends_133 : decode cX13_ends 133 = .ok (.iinc 3 1, 3) := by decide +kernel
theorem dX13_ends_136 : decode cX13_ends 136 = .ok (.goto (-96), 3) := by decide +kernel
theorem dX13_ends_139 : decode cX13_ends 139 = .ok (.aload_n 0, 1) := by decide +kernel
theorem dX13_ends_140 : decode cX13_ends 140 = .ok (.getfield 79, 3) := by decide +kernel
theorem dX13_ends_143 : decode cX13_ends 143 = .ok (.iload_n 1, 1) := by decide +kernel
theorem dX13_ends_144 : decode cX13_ends 144 = .ok (.iaload, 1) := by decide +kernel
theorem dX13_ends_145 : decode cX13_ends 145 = .ok (.i2l, 1) := by decide +kernel
theorem dX13_ends_146 : decode cX13_ends 146 = .ok (.lstore_n 3, 1) := by decide +kernel
theorem dX13_ends_147 : decode cX13_ends 147 = .ok (.aload_n 0, 1) := by decide +kernel
theorem dX13_ends_148 : decode cX13_ends 148 = .ok (.getfield 153, 3) := by decide +kernel
theorem dX13_ends_151 : decode cX13_ends 151 = .ok (.aload_n 0, 1) := by decide +kernel
theorem dX13_ends_152 : decode cX13_ends 152 = .ok (.getfield 79, 3) := by decide +kernel
theorem dX13_ends_155 : decode cX13_ends 155 = .ok (.invokestatic 336, 3) := by decide +kernel
theorem dX13_ends_158 : decode cX13_ends 158 = .ok (.aload_n 0, 1) := by decide +kernel
theorem dX13_ends_159 : decode cX13_ends 159 = .ok (.getfield 156, 3) := by decide +kernel
theorem dX13_ends_162 : decode cX13_ends 162 = .ok (.aload_n 0, 1) := by decide +kernel
theorem dX13_ends_163 : decode cX13_ends 163 = .ok (.getfield 82, 3) := by decide +kernel
theorem dX13_ends_166 : decode cX13_ends 166 = .ok (.invokestatic 336, 3) := by decide +kernel
theorem dX13_ends_169 : decode cX13_ends 169 = .ok (.aload_n 0, 1) := by decide +kernel
theorem dX13_ends_170 : decode cX13_ends 170 = .ok (.iload_n 2, 1) := by decide +kernel
theorem dX13_ends_171 : decode cX13_ends 171 = .ok (.putfield 85, 3) := by decide +kernel
theorem dX13_ends_174 : decode cX13_ends 174 = .ok (.lload_n 3, 1) := by decide +kernel
theorem dX13_ends_175 : decode cX13_ends 175 = .ok (.lreturn, 1) := by decide +kernel
theorem dX13_book_0 : decode cX13_book 0 = .ok (.iload_n 1, 1) := by decide +kernel
theorem dX13_book_1 : decode cX13_book 1 = .ok (.iconst (-1), 1) := by decide +kernel
theorem dX13_book_2 : decode cX13_book 2 = .ok (.if_icmp .ne 10, 3) := by decide +kernel
theorem dX13_book_5 : decode cX13_book 5 = .ok (.aload_n 0, 1) := by decide +kernel
theorem dX13_book_6 : decode cX13_book 6 = .ok (.iconst 0, 1) := by decide +kernel
theorem dX13_book_7 : decode cX13_book 7 = .ok (.putfield 386, 3) := by decide +kernel
theorem dX13_book_10 : decode cX13_book 10 = .ok (.iconst 0, 1) := by decide +kernel
theorem dX13_book_11 : decode cX13_book 11 = .ok (.ireturn, 1) := by decide +kernel
theorem dX13_book_12 : decode cX13_book 12 = .ok (.iload_n 1, 1) := by decide +kernel
theorem dX13_book_13 : decode cX13_book 13 = .ok (.invokestatic 372, 3) := by decide +kernel
theorem dX13_book_16 : decode cX13_book 16 = .ok (.ifCond .ne 5, 3) := by decide +kernel
theorem dX13_book_19 : decode cX13_book 19 = .ok (.iconst (-1), 1) := by decide +kernel
theorem dX13_book_20 : decode cX13_book 20 = .ok (.ireturn, 1) := by decide +kernel
theorem dX13_book_21 : decode cX13_book 21 = .ok (.aload_n 0, 1) := by decide +kernel
theorem dX13_book_22 : decode cX13_book 22 = .ok (.getfield 386, 3) := by decide +kernel
theorem dX13_book_25 : decode cX13_book 25 = .ok (.bipush 8, 2) := by decide +kernel
theorem dX13_book_27 : decode cX13_book 27 = .ok (.if_icmp .ne 6, 3) := by decide +kernel
theorem dX13_book_30 : decode cX13_book 30 = .ok (.bipush (-4), 2) := by decide +kernel
theorem dX13_book_32 : decode cX13_book 32 = .ok (.ireturn, 1) := by decide +kernel
theorem dX13_book_33 : decode cX13_book 33 = .ok (.aload_n 0, 1) := by decide +kernel
theorem dX13_book_34 : decode cX13_book 34 = .ok (.getfield 150, 3) := by decide +kernel
theorem dX13_book_37 : decode cX13_book 37 = .ok (.iconst 2, 1) := by decide +kernel
theorem dX13_book_38 : decode cX13_book 38 = .ok (.aload_n 0, 1) := by decide +kernel
theorem dX13_book_39 : decode cX13_book 39 = .ok (.getfield 386, 3) := by decide +kernel
theorem dX13_book_42 : decode cX13_book 42 = .ok (.imul, 1) := by decide +kernel
theorem dX13_book_43 : decode cX13_book 43 = .ok (.iload_n 1, 1) := by decide +kernel
theorem dX13_book_44 : decode cX13_book 44 = .ok (.iastore, 1) := by decide +kernel
theorem dX13_book_45 : decode cX13_book 45 = .ok (.aload_n 0, 1) := by decide +kernel
theorem dX13_book_46 : decode cX13_book 46 = .ok (.getfield 150, 3) := by decide +kernel
theorem dX13_book_49 : decode cX13_book 49 = .ok (.iconst 2, 1) := by decide +kernel
theorem dX13_book_50 : decode cX13_book 50 = .ok (.aload_n 0, 1) := by decide +kernel
theorem dX13_book_51 : decode cX13_book 51 = .ok (.getfield 386, 3) := by decide +kernel
theorem dX13_book_54 : decode cX13_book 54 = .ok (.imul, 1) := by decide +kernel
theorem dX13_book_55 : decode cX13_book 55 = .ok (.iconst 1, 1) := by decide +kernel
theorem dX13_book_56 : decode cX13_book 56 = .ok (.iadd, 1) := by decide +kernel
theorem dX13_book_57 : decode cX13_book 57 = .ok (.iload_n 2, 1) := by decide +kernel
theorem dX13_book_58 : decode cX13_book 58 = .ok (.iastore, 1) := by decide +kernel
theorem dX13_book_59 : decode cX13_book 59 = .ok (.aload_n 0, 1) := by decide +kernel
theorem dX13_book_60 : decode cX13_book 60 = .ok (.dup, 1) := by decide +kernel
theorem dX13_book_61 : decode cX13_book 61 = .ok (.getfield 386, 3) := by decide +kernel
theorem dX13_book_64 : decode cX13_book 64 = .ok (.iconst 1, 1) := by decide +kernel
theorem dX13_book_65 : decode cX13_book 65 = .ok (.iadd, 1) := by decide +kernel
theorem dX13_book_66 : decode cX13_book 66 = .ok (.putfield 386, 3) := by decide +kernel
theorem dX13_book_69 : decode cX13_book 69 = .ok (.aload_n 0, 1) := by decide +kernel
theorem dX13_book_70 : decode cX13_book 70 = .ok (.getfield 386, 3) := by decide +kernel
theorem dX13_book_73 : decode cX13_book 73 = .ok (.ireturn, 1) := by decide +kernel
theorem dX13_looked_0 : decode cX13_looked 0 = .ok (.iconst 0, 1) := by decide +kernel
theorem dX13_looked_1 : decode cX13_looked 1 = .ok (.istore_n 1, 1) := by decide +kernel
theorem dX13_looked_2 : decode cX13_looked 2 = .ok (.iload_n 1, 1) := by decide +kernel
theorem dX13_looked_3 : decode cX13_looked 3 = .ok (.aload_n 0, 1) := by decide +kernel
theorem dX13_looked_4 : decode cX13_looked 4 = .ok (.getfield 386, 3) := by decide +kernel
theorem dX13_looked_7 : decode cX13_looked 7 = .ok (.if_icmp .ge 37, 3) := by decide +kernel
theorem dX13_looked_10 : decode cX13_looked 10 = .ok (.aload_n 0, 1) := by decide +kernel
theorem dX13_looked_11 : decode cX13_looked 11 = .ok (.getfield 79, 3) := by decide +kernel
theorem dX13_looked_14 : decode cX13_looked 14 = .ok (.aload_n 0, 1) := by decide +kernel
theorem dX13_looked_15 : decode cX13_looked 15 = .ok (.getfield 150, 3) := by decide +kernel
theorem dX13_looked_18 : decode cX13_looked 18 = .ok (.iconst 2, 1) := by decide +kernel
theorem dX13_looked_19 : decode cX13_looked 19 = .ok (.iload_n 1, 1) := by decide +kernel
theorem dX13_looked_20 : decode cX13_looked 20 = .ok (.imul, 1) := by decide +kernel
theorem dX13_looked_21 : decode cX13_looked 21 = .ok (.iaload, 1) := by decide +kernel
theorem dX13_looked_22 : decode cX13_looked 22 = .ok (.iaload, 1) := by decide +kernel
theorem dX13_looked_23 : decode cX13_looked 23 = .ok (.aload_n 0, 1) := by decide +kernel
theorem dX13_looked_24 : decode cX13_looked 24 = .ok (.getfield 150, 3) := by decide +kernel
theorem dX13_looked_27 : decode cX13_looked 27 = .ok (.iconst 2, 1) := by decide +kernel
theorem dX13_looked_28 : decode cX13_looked 28 = .ok (.iload_n 1, 1) := by decide +kernel
theorem dX13_looked_29 : decode cX13_looked 29 = .ok (.imul, 1) := by decide +kernel
theorem dX13_looked_30 : decode cX13_looked 30 = .ok (.iconst 1, 1) := by decide +kernel
theorem dX13_looked_31 : decode cX13_looked 31 = .ok (.iadd, 1) := by decide +kernel
theorem dX13_looked_32 : decode cX13_looked 32 = .ok (.iaload, 1) := by decide +kernel
theorem dX13_looked_33 : decode cX13_looked 33 = .ok (.if_icmp .eq 5, 3) := by decide +kernel
theorem dX13_looked_36 : decode cX13_looked 36 = .ok (.iload_n 1, 1) := by decide +kernel
theorem dX13_looked_37 : decode cX13_looked 37 = .ok (.ireturn, 1) := by decide +kernel
theorem dX13_looked_38 : decode cX13_looked 38 = .ok (.iinc 1 1, 3) := by decide +kernel
theorem dX13_looked_41 : decode cX13_looked 41 = .ok (.goto (-39), 3) := by decide +kernel
theorem dX13_looked_44 : decode cX13_looked 44 = .ok (.bipush (-5), 2) := by decide +kernel
theorem dX13_looked_46 : decode cX13_looked 46 = .ok (.ireturn, 1) := by decide +kernel
theorem dX13_row_0 : decode cX13_row 0 = .ok (.iconst 0, 1) := by decide +kernel
theorem dX13_row_1 : decode cX13_row 1 = .ok (.istore 5, 2) := by decide +kernel
theorem dX13_row_3 : decode cX13_row 3 = .ok (.iload 5, 2) := by decide +kernel
theorem dX13_row_5 : decode cX13_row 5 = .ok (.iload_n 2, 1) := by decide +kernel
theorem dX13_row_6 : decode cX13_row 6 = .ok (.if_icmp .ge 43, 3) := by decide +kernel
theorem dX13_row_9 : decode cX13_row 9 = .ok (.iload 4, 2) := by decide +kernel
theorem dX13_row_11 : decode cX13_row 11 = .ok (.ifCond .eq 19, 3) := by decide +kernel
theorem dX13_row_14 : decode cX13_row 14 = .ok (.aload_n 1, 1) := by decide +kernel
theorem dX13_row_15 : decode cX13_row 15 = .ok (.iload 5, 2) := by decide +kernel
theorem dX13_row_17 : decode cX13_row 17 = .ok (.aload_n 0, 1) := by decide +kernel
theorem dX13_row_18 : decode cX13_row 18 = .ok (.getfield 159, 3) := by decide +kernel
theorem dX13_row_21 : decode cX13_row 21 = .ok (.iload_n 3, 1) := by decide +kernel
theorem dX13_row_22 : decode cX13_row 22 = .ok (.iload 5, 2) := by decide +kernel
theorem dX13_row_24 : decode cX13_row 24 = .ok (.iadd, 1) := by decide +kernel
theorem dX13_row_25 : decode cX13_row 25 = .ok (.iaload, 1) := by decide +kernel
theorem dX13_row_26 : decode cX13_row 26 = .ok (.iastore, 1) := by decide +kernel
theorem dX13_row_27 : decode cX13_row 27 = .ok (.goto 16, 3) := by decide +kernel
theorem dX13_row_30 : decode cX13_row 30 = .ok (.aload_n 0, 1) := by decide +kernel
theorem dX13_row_31 : decode cX13_row 31 = .ok (.getfield 159, 3) := by decide +kernel
theorem dX13_row_34 : decode cX13_row 34 = .ok (.iload_n 3, 1) := by decide +kernel
theorem dX13_row_35 : decode cX13_row 35 = .ok (.iload 5, 2) := by decide +kernel
theorem dX13_row_37 : decode cX13_row 37 = .ok (.iadd, 1) := by decide +kernel
theorem dX13_row_38 : decode cX13_row 38 = .ok (.aload_n 1, 1) := by decide +kernel
theorem dX13_row_39 : decode cX13_row 39 = .ok (.iload 5, 2) := by decide +kernel
theorem dX13_row_41 : decode cX13_row 41 = .ok (.iaload, 1) := by decide +kernel
theorem dX13_row_42 : decode cX13_row 42 = .ok (.iastore, 1) := by decide +kernel
theorem dX13_row_43 : decode cX13_row 43 = .ok (.iinc 5 1, 3) := by decide +kernel
theorem dX13_row_46 : decode cX13_row 46 = .ok (.goto (-43), 3) := by decide +kernel
theorem dX13_row_49 : decode cX13_row 49 = .ok (.iload_n 3, 1) := by decide +kernel
theorem dX13_row_50 : decode cX13_row 50 = .ok (.iload_n 2, 1) := by decide +kernel
theorem dX13_row_51 : decode cX13_row 51 = .ok (.iadd, 1) := by decide +kernel
theorem dX13_row_52 : decode cX13_row 52 = .ok (.ireturn, 1) := by decide +kernel
theorem dX13_carries_0 : decode cX13_carries 0 = .ok (.aload_n 0, 1) := by decide +kernel
theorem dX13_carries_1 : decode cX13_carries 1 = .ok (.aload_n 0, 1) := by decide +kernel
theorem dX13_carries_2 : decode cX13_carries 2 = .ok (.getfield 79, 3) := by decide +kernel
theorem dX13_carries_5 : decode cX13_carries 5 = .ok (.iconst 5, 1) := by decide +kernel
theorem dX13_carries_6 : decode cX13_carries 6 = .ok (.iconst 0, 1) := by decide +kernel
theorem dX13_carries_7 : decode cX13_carries 7 = .ok (.iload_n 1, 1) := by decide +kernel
theorem dX13_carries_8 : decode cX13_carries 8 = .ok (.invokevirtual 389, 3) := by decide +kernel
theorem dX13_carries_11 : decode cX13_carries 11 = .ok (.istore_n 2, 1) := by decide +kernel
theorem dX13_carries_12 : decode cX13_carries 12 = .ok (.aload_n 0, 1) := by decide +kernel
theorem dX13_carries_13 : decode cX13_carries 13 = .ok (.aload_n 0, 1) := by decide +kernel
theorem dX13_carries_14 : decode cX13_carries 14 = .ok (.getfield 82, 3) := by decide +kernel
theorem dX13_carries_17 : decode cX13_carries 17 = .ok (.iconst 3, 1) := by decide +kernel
theorem dX13_carries_18 : decode cX13_carries 18 = .ok (.iload_n 2, 1) := by decide +kernel
theorem dX13_carries_19 : decode cX13_carries 19 = .ok (.iload_n 1, 1) := by decide +kernel
theorem dX13_carries_20 : decode cX13_carries 20 = .ok (.invokevirtual 389, 3) := by decide +kernel
theorem dX13_carries_23 : decode cX13_carries 23 = .ok (.istore_n 2, 1) := by decide +kernel
theorem dX13_carries_24 : decode cX13_carries 24 = .ok (.aload_n 0, 1) := by decide +kernel
theorem dX13_carries_25 : decode cX13_carries 25 = .ok (.aload_n 0, 1) := by decide +kernel
theorem dX13_carries_26 : decode cX13_carries 26 = .ok (.getfield 120, 3) := by decide +kernel
theorem dX13_carries_29 : decode cX13_carries 29 = .ok (.bipush 60, 2) := by decide +kernel
theorem dX13_carries_31 : decode cX13_carries 31 = .ok (.iload_n 2, 1) := by decide +kernel
theorem dX13_carries_32 : decode cX13_carries 32 = .ok (.iload_n 1, 1) := by decide +kernel
theorem dX13_carries_33 : decode cX13_carries 33 = .ok (.invokevirtual 389, 3) := by decide +kernel
theorem dX13_carries_36 : decode cX13_carries 36 = .ok (.istore_n 2, 1) := by decide +kernel
theorem dX13_carries_37 : decode cX13_carries 37 = .ok (.aload_n 0, 1) := by decide +kernel
theorem dX13_carries_38 : decode cX13_carries 38 = .ok (.aload_n 0, 1) := by decide +kernel
theorem dX13_carries_39 : decode cX13_carries 39 = .ok (.getfield 141, 3) := by decide +kernel
theorem dX13_carries_42 : decode cX13_carries 42 = .ok (.bipush 10, 2) := by decide +kernel
theorem dX13_carries_44 : decode cX13_carries 44 = .ok (.iload_n 2, 1) := by decide +kernel
theorem dX13_carries_45 : decode cX13_carries 45 = .ok (.iload_n 1, 1) := by decide +kernel
theorem dX13_carries_46 : decode cX13_carries 46 = .ok (.invokevirtual 389, 3) := by decide +kernel
theorem dX13_carries_49 : decode cX13_carries 49 = .ok (.istore_n 2, 1) := by decide +kernel
theorem dX13_carries_50 : decode cX13_carries 50 = .ok (.aload_n 0, 1) := by decide +kernel
theorem dX13_carries_51 : decode cX13_carries 51 = .ok (.aload_n 0, 1) := by decide +kernel
theorem dX13_carries_52 : decode cX13_carries 52 = .ok (.getfield 147, 3) := by decide +kernel
theorem dX13_carries_55 : decode cX13_carries 55 = .ok (.bipush 20, 2) := by decide +kernel
theorem dX13_carries_57 : decode cX13_carries 57 = .ok (.iload_n 2, 1) := by decide +kernel
theorem dX13_carries_58 : decode cX13_carries 58 = .ok (.iload_n 1, 1) := by decide +kernel
theorem dX13_carries_59 : decode cX13_carries 59 = .ok (.invokevirtual 389, 3) := by decide +kernel
theorem dX13_carries_62 : decode cX13_carries 62 = .ok (.istore_n 2, 1) := by decide +kernel
theorem dX13_carries_63 : decode cX13_carries 63 = .ok (.aload_n 0, 1) := by decide +kernel
theorem dX13_carries_64 : decode cX13_carries 64 = .ok (.aload_n 0, 1) := by decide +kernel
theorem dX13_carries_65 : decode cX13_carries 65 = .ok (.getfield 150, 3) := by decide +kernel
theorem dX13_carries_68 : decode cX13_carries 68 = .ok (.bipush 16, 2) := by decide +kernel
theorem dX13_carries_70 : decode cX13_carries 70 = .ok (.iload_n 2, 1) := by decide +kernel
theorem dX13_carries_71 : decode cX13_carries 71 = .ok (.iload_n 1, 1) := by decide +kernel
theorem dX13_carries_72 : decode cX13_carries 72 = .ok (.invokevirtual 389, 3) := by decide +kernel
theorem dX13_carries_75 : decode cX13_carries 75 = .ok (.istore_n 2, 1) := by decide +kernel
theorem dX13_carries_76 : decode cX13_carries 76 = .ok (.aload_n 0, 1) := by decide +kernel
theorem dX13_carries_77 : decode cX13_carries 77 = .ok (.aload_n 0, 1) := by decide +kernel
theorem dX13_carries_78 : decode cX13_carries 78 = .ok (.getfield 162, 3) := by decide +kernel
theorem dX13_carries_81 : decode cX13_carries 81 = .ok (.bipush 7, 2) := by decide +kernel
theorem dX13_carries_83 : decode cX13_carries 83 = .ok (.iload_n 2, 1) := by decide +kernel
theorem dX13_carries_84 : decode cX13_carries 84 = .ok (.iload_n 1, 1) := by decide +kernel
theorem dX13_carries_85 : decode cX13_carries 85 = .ok (.invokevirtual 389, 3) := by decide +kernel
theorem dX13_carries_88 : decode cX13_carries 88 = .ok (.istore_n 2, 1) := by decide +kernel
theorem dX13_carries_89 : decode cX13_carries 89 = .ok (.return_, 1) := by decide +kernel
theorem dX13_image_0 : decode cX13_image 0 = .ok (.aload_n 0, 1) := by decide +kernel
theorem dX13_image_1 : decode cX13_image 1 = .ok (.getfield 162, 3) := by decide +kernel
theorem dX13_image_4 : decode cX13_image 4 = .ok (.iconst 0, 1) := by decide +kernel
theorem dX13_image_5 : decode cX13_image 5 = .ok (.aload_n 0, 1) := by decide +kernel
theorem dX13_image_6 : decode cX13_image 6 = .ok (.getfield 85, 3) := by decide +kernel
theorem dX13_image_9 : decode cX13_image 9 = .ok (.iastore, 1) := by decide +kernel
theorem dX13_image_10 : decode cX13_image 10 = .ok (.aload_n 0, 1) := by decide +kernel
theorem dX13_image_11 : decode cX13_image 11 = .ok (.getfield 162, 3) := by decide +kernel
theorem dX13_image_14 : decode cX13_image 14 = .ok (.iconst 1, 1) := by decide +kernel
theorem dX13_image_15 : decode cX13_image 15 = .ok (.aload_n 0, 1) := by decide +kernel
theorem dX13_image_16 : decode cX13_image 16 = .ok (.getfield 340, 3) := by decide +kernel
theorem dX13_image_19 : decode cX13_image 19 = .ok (.iastore, 1) := by decide +kernel
theorem dX13_image_20 : decode cX13_image 20 = .ok (.aload_n 0, 1) := by decide +kernel
theorem dX13_image_21 : decode cX13_image 21 = .ok (.getfield 162, 3) := by decide +kernel
theorem dX13_image_24 : decode cX13_image 24 = .ok (.iconst 2, 1) := by decide +kernel
theorem dX13_image_25 : decode cX13_image 25 = .ok (.aload_n 0, 1) := by decide +kernel
theorem dX13_image_26 : decode cX13_image 26 = .ok (.getfield 343, 3) := by decide +kernel
theorem dX13_image_29 : decode cX13_image 29 = .ok (.iastore, 1) := by decide +kernel
theorem dX13_image_30 : decode cX13_image 30 = .ok (.aload_n 0, 1) := by decide +kernel
theorem dX13_image_31 : decode cX13_image 31 = .ok (.getfield 162, 3) := by decide +kernel
theorem dX13_image_34 : decode cX13_image 34 = .ok (.iconst 3, 1) := by decide +kernel
theorem dX13_image_35 : decode cX13_image 35 = .ok (.aload_n 0, 1) := by decide +kernel
theorem dX13_image_36 : decode cX13_image 36 = .ok (.getfield 346, 3) := by decide +kernel
theorem dX13_image_39 : decode cX13_image 39 = .ok (.iastore, 1) := by decide +kernel
theorem dX13_image_40 : decode cX13_image 40 = .ok (.aload_n 0, 1) := by decide +kernel
theorem dX13_image_41 : decode cX13_image 41 = .ok (.getfield 162, 3) := by decide +kernel
theorem dX13_image_44 : decode cX13_image 44 = .ok (.iconst 4, 1) := by decide +kernel
theorem dX13_image_45 : decode cX13_image 45 = .ok (.aload_n 0, 1) := by decide +kernel
theorem dX13_image_46 : decode cX13_image 46 = .ok (.getfield 367, 3) := by decide +kernel
theorem dX13_image_49 : decode cX13_image 49 = .ok (.iastore, 1) := by decide +kernel
theorem dX13_image_50 : decode cX13_image 50 = .ok (.aload_n 0, 1) := by decide +kernel
theorem dX13_image_51 : decode cX13_image 51 = .ok (.getfield 162, 3) := by decide +kernel
theorem dX13_image_54 : decode cX13_image 54 = .ok (.iconst 5, 1) := by decide +kernel
theorem dX13_image_55 : decode cX13_image 55 = .ok (.aload_n 0, 1) := by decide +kernel
theorem dX13_image_56 : decode cX13_image 56 = .ok (.getfield 383, 3) := by decide +kernel
theorem dX13_image_59 : decode cX13_image 59 = .ok (.iastore, 1) := by decide +kernel
theorem dX13_image_60 : decode cX13_image 60 = .ok (.aload_n 0, 1) := by decide +kernel
theorem dX13_image_61 : decode cX13_image 61 = .ok (.getfield 162, 3) := by decide +kernel
theorem dX13_image_64 : decode cX13_image 64 = .ok (.bipush 6, 2) := by decide +kernel
theorem dX13_image_66 : decode cX13_image 66 = .ok (.aload_n 0, 1) := by decide +kernel
theorem dX13_image_67 : decode cX13_image 67 = .ok (.getfield 386, 3) := by decide +kernel
theorem dX13_image_70 : decode cX13_image 70 = .ok (.iastore, 1) := by decide +kernel
theorem dX13_image_71 : decode cX13_image 71 = .ok (.aload_n 0, 1) := by decide +kernel
theorem dX13_image_72 : decode cX13_image 72 = .ok (.iconst 0, 1) := by decide +kernel
theorem dX13_image_73 : decode cX13_image 73 = .ok (.invokevirtual 393, 3) := by decide +kernel
theorem dX13_image_76 : decode cX13_image 76 = .ok (.aload_n 0, 1) := by decide +kernel
theorem dX13_image_77 : decode cX13_image 77 = .ok (.iconst 1, 1) := by decide +kernel
theorem dX13_image_78 : decode cX13_image 78 = .ok (.putfield 397, 3) := by decide +kernel
theorem dX13_image_81 : decode cX13_image 81 = .ok (.aload_n 0, 1) := by decide +kernel
theorem dX13_image_82 : decode cX13_image 82 = .ok (.getfield 196, 3) := by decide +kernel
theorem dX13_image_85 : decode cX13_image 85 = .ok (.ireturn, 1) := by decide +kernel
theorem dX13_undo_0 : decode cX13_undo 0 = .ok (.aload_n 0, 1) := by decide +kernel
theorem dX13_undo_1 : decode cX13_undo 1 = .ok (.getfield 397, 3) := by decide +kernel
theorem dX13_undo_4 : decode cX13_undo 4 = .ok (.ifCond .ne 6, 3) := by decide +kernel
theorem dX13_undo_7 : decode cX13_undo 7 = .ok (.bipush (-3), 2) := by decide +kernel
theorem dX13_undo_9 : decode cX13_undo 9 = .ok (.ireturn, 1) := by decide +kernel
theorem dX13_undo_10 : decode cX13_undo 10 = .ok (.aload_n 0, 1) := by decide +kernel
theorem dX13_undo_11 : decode cX13_undo 11 = .ok (.iconst 1, 1) := by decide +kernel
theorem dX13_undo_12 : decode cX13_undo 12 = .ok (.invokevirtual 393, 3) := by decide +kernel
theorem dX13_undo_15 : decode cX13_undo 15 = .ok (.aload_n 0, 1) := by decide +kernel
theorem dX13_undo_16 : decode cX13_undo 16 = .ok (.aload_n 0, 1) := by decide +kernel
theorem dX13_undo_17 : decode cX13_undo 17 = .ok (.getfield 162, 3) := by decide +kernel
theorem dX13_undo_20 : decode cX13_undo 20 = .ok (.iconst 0, 1) := by decide +kernel
theorem dX13_undo_21 : decode cX13_undo 21 = .ok (.iaload, 1) := by decide +kernel
theorem dX13_undo_22 : decode cX13_undo 22 = .ok (.putfield 85, 3) := by decide +kernel
theorem dX13_undo_25 : decode cX13_undo 25 = .ok (.aload_n 0, 1) := by decide +kernel
theorem dX13_undo_26 : decode cX13_undo 26 = .ok (.aload_n 0, 1) := by decide +kernel
theorem dX13_undo_27 : decode cX13_undo 27 = .ok (.getfield 162, 3) := by decide +kernel
theorem dX13_undo_30 : decode cX13_undo 30 = .ok (.iconst 1, 1) := by decide +kernel
theorem dX13_undo_31 : decode cX13_undo 31 = .ok (.iaload, 1) := by decide +kernel
theorem dX13_undo_32 : decode cX13_undo 32 = .ok (.putfield 340, 3) := by decide +kernel
theorem dX13_undo_35 : decode cX13_undo 35 = .ok (.aload_n 0, 1) := by decide +kernel
theorem dX13_undo_36 : decode cX13_undo 36 = .ok (.aload_n 0, 1) := by decide +kernel
theorem dX13_undo_37 : decode cX13_undo 37 = .ok (.getfield 162, 3) := by decide +kernel
theorem dX13_undo_40 : decode cX13_undo 40 = .ok (.iconst 2, 1) := by decide +kernel
theorem dX13_undo_41 : decode cX13_undo 41 = .ok (.iaload, 1) := by decide +kernel
theorem dX13_undo_42 : decode cX13_undo 42 = .ok (.putfield 343, 3) := by decide +kernel
theorem dX13_undo_45 : decode cX13_undo 45 = .ok (.aload_n 0, 1) := by decide +kernel
theorem dX13_undo_46 : decode cX13_undo 46 = .ok (.aload_n 0, 1) := by decide +kernel
theorem dX13_undo_47 : decode cX13_undo 47 = .ok (.getfield 162, 3) := by decide +kernel
theorem dX13_undo_50 : decode cX13_undo 50 = .ok (.iconst 3, 1) := by decide +kernel
theorem dX13_undo_51 : decode cX13_undo 51 = .ok (.iaload, 1) := by decide +kernel
theorem dX13_undo_52 : decode cX13_undo 52 = .ok (.putfield 346, 3) := by decide +kernel
theorem dX13_undo_55 : decode cX13_undo 55 = .ok (.aload_n 0, 1) := by decide +kernel
theorem dX13_undo_56 : decode cX13_undo 56 = .ok (.aload_n 0, 1) := by decide +kernel
theorem dX13_undo_57 : decode cX13_undo 57 = .ok (.getfield 162, 3) := by decide +kernel
theorem dX13_undo_60 : decode cX13_undo 60 = .ok (.iconst 4, 1) := by decide +kernel
theorem dX13_undo_61 : decode cX13_undo 61 = .ok (.iaload, 1) := by decide +kernel
theorem dX13_undo_62 : decode cX13_undo 62 = .ok (.putfield 367, 3) := by decide +kernel
theorem dX13_undo_65 : decode cX13_undo 65 = .ok (.aload_n 0, 1) := by decide +kernel
theorem dX13_undo_66 : decode cX13_undo 66 = .ok (.aload_n 0, 1) := by decide +kernel
theorem dX13_undo_67 : decode cX13_undo 67 = .ok (.getfield 162, 3) := by decide +kernel
theorem dX13_undo_70 : decode cX13_undo 70 = .ok (.iconst 5, 1) := by decide +kernel
theorem dX13_undo_71 : decode cX13_undo 71 = .ok (.iaload, 1) := by decide +kernel
theorem dX13_undo_72 : decode cX13_undo 72 = .ok (.putfield 383, 3) := by decide +kernel
theorem dX13_undo_75 : decode cX13_undo 75 = .ok (.aload_n 0, 1) := by decide +kernel
theorem dX13_undo_76 : decode cX13_undo 76 = .ok (.aload_n 0, 1) := by decide +kernel
theorem dX13_undo_77 : decode cX13_undo 77 = .ok (.getfield 162, 3) := by decide +kernel
theorem dX13_undo_80 : decode cX13_undo 80 = .ok (.bipush 6, 2) := by decide +kernel
theorem dX13_undo_82 : decode cX13_undo 82 = .ok (.iaload, 1) := by decide +kernel
theorem dX13_undo_83 : decode cX13_undo 83 = .ok (.putfield 386, 3) := by decide +kernel
theorem dX13_undo_86 : decode cX13_undo 86 = .ok (.aload_n 0, 1) := by decide +kernel
theorem dX13_undo_87 : decode cX13_undo 87 = .ok (.getfield 196, 3) := by decide +kernel
theorem dX13_undo_90 : decode cX13_undo 90 = .ok (.ireturn, 1) := by decide +kernel
theorem dX13_jobs_0 : decode cX13_jobs 0 = .ok (.iconst 0, 1) := by decide +kernel
theorem dX13_jobs_1 : decode cX13_jobs 1 = .ok (.istore_n 1, 1) := by decide +kernel
theorem dX13_jobs_2 : decode cX13_jobs 2 = .ok (.iconst 0, 1) := by decide +kernel
theorem dX13_jobs_3 : decode cX13_jobs 3 = .ok (.istore_n 2, 1) := by decide +kernel
theorem dX13_jobs_4 : decode cX13_jobs 4 = .ok (.iload_n 2, 1) := by decide +kernel
theorem dX13_jobs_5 : decode cX13_jobs 5 = .ok (.iconst 4, 1) := by decide +kernel
theorem dX13_jobs_6 : decode cX13_jobs 6 = .ok (.if_icmp .ge 26, 3) := by decide +kernel
theorem dX13_jobs_9 : decode cX13_jobs 9 = .ok (.iload_n 1, 1) := by decide +kernel
theorem dX13_jobs_10 : decode cX13_jobs 10 = .ok (.aload_n 0, 1) := by decide +kernel
theorem dX13_jobs_11 : decode cX13_jobs 11 = .ok (.getfield 123, 3) := by decide +kernel
theorem dX13_jobs_14 : decode cX13_jobs 14 = .ok (.iload_n 2, 1) := by decide +kernel
theorem dX13_jobs_15 : decode cX13_jobs 15 = .ok (.iaload, 1) := by decide +kernel
theorem dX13_jobs_16 : decode cX13_jobs 16 = .ok (.ifCond .lt 7, 3) := by decide +kernel
theorem dX13_jobs_19 : decode cX13_jobs 19 = .ok (.iconst 1, 1) := by decide +kernel
theorem dX13_jobs_20 : decode cX13_jobs 20 = .ok (.goto 4, 3) := by decide +kernel
theorem dX13_jobs_23 : decode cX13_jobs 23 = .ok (.iconst 0, 1) := by decide +kernel
theorem dX13_jobs_24 : decode cX13_jobs 24 = .ok (.iadd, 1) := by decide +kernel
theorem dX13_jobs_25 : decode cX13_jobs 25 = .ok (.istore_n 1, 1) := by decide +kernel
theorem dX13_jobs_26 : decode cX13_jobs 26 = .ok (.iinc 2 1, 3) := by decide +kernel
theorem dX13_jobs_29 : decode cX13_jobs 29 = .ok (.goto (-25), 3) := by decide +kernel
theorem dX13_jobs_32 : decode cX13_jobs 32 = .ok (.iload_n 1, 1) := by decide +kernel
theorem dX13_jobs_33 : decode cX13_jobs 33 = .ok (.ireturn, 1) := by decide +kernel
theorem dX13_count_0 : decode cX13_count 0 = .ok (.iload_n 1, 1) := by decide +kernel
theorem dX13_count_1 : decode cX13_count 1 = .ok (.tableswitch 69 0 5 #[39, 44, 49, 54, 59, 64], 39) := by decide +kernel
theorem dX13_count_40 : decode cX13_count 40 = .ok (.aload_n 0, 1) := by decide +kernel
theorem dX13_count_41 : decode cX13_count 41 = .ok (.getfield 196, 3) := by decide +kernel
theorem dX13_count_44 : decode cX13_count 44 = .ok (.ireturn, 1) := by decide +kernel
theorem dX13_count_45 : decode cX13_count 45 = .ok (.aload_n 0, 1) := by decide +kernel
theorem dX13_count_46 : decode cX13_count 46 = .ok (.invokevirtual 401, 3) := by decide +kernel
theorem dX13_count_49 : decode cX13_count 49 = .ok (.ireturn, 1) := by decide +kernel
theorem dX13_count_50 : decode cX13_count 50 = .ok (.aload_n 0, 1) := by decide +kernel
theorem dX13_count_51 : decode cX13_count 51 = .ok (.getfield 367, 3) := by decide +kernel
theorem dX13_count_54 : decode cX13_count 54 = .ok (.ireturn, 1) := by decide +kernel
theorem dX13_count_55 : decode cX13_count 55 = .ok (.aload_n 0, 1) := by decide +kernel
theorem dX13_count_56 : decode cX13_count 56 = .ok (.getfield 383, 3) := by decide +kernel
theorem dX13_count_59 : decode cX13_count 59 = .ok (.ireturn, 1) := by decide +kernel
theorem dX13_count_60 : decode cX13_count 60 = .ok (.aload_n 0, 1) := by decide +kernel
theorem dX13_count_61 : decode cX13_count 61 = .ok (.getfield 386, 3) := by decide +kernel
theorem dX13_count_64 : decode cX13_count 64 = .ok (.ireturn, 1) := by decide +kernel
theorem dX13_count_65 : decode cX13_count 65 = .ok (.aload_n 0, 1) := by decide +kernel
theorem dX13_count_66 : decode cX13_count 66 = .ok (.getfield 181, 3) := by decide +kernel
theorem dX13_count_69 : decode cX13_count 69 = .ok (.ireturn, 1) := by decide +kernel
theorem dX13_count_70 : decode cX13_count 70 = .ok (.bipush (-2), 2) := by decide +kernel
theorem dX13_count_72 : decode cX13_count 72 = .ok (.ireturn, 1) := by decide +kernel
theorem dX13_judge_0 : decode cX13_judge 0 = .ok (.iload_n 1, 1) := by decide +kernel
theorem dX13_judge_1 : decode cX13_judge 1 = .ok (.i2l, 1) := by decide +kernel
theorem dX13_judge_2 : decode cX13_judge 2 = .ok (.lconst 0, 1) := by decide +kernel
theorem dX13_judge_3 : decode cX13_judge 3 = .ok (.ldc2_w 404, 3) := by decide +kernel
theorem dX13_judge_6 : decode cX13_judge 6 = .ok (.invokestatic 177, 3) := by decide +kernel
theorem dX13_judge_9 : decode cX13_judge 9 = .ok (.ifCond .ne 5, 3) := by decide +kernel
theorem dX13_judge_12 : decode cX13_judge 12 = .ok (.iconst (-1), 1) := by decide +kernel
theorem dX13_judge_13 : decode cX13_judge 13 = .ok (.ireturn, 1) := by decide +kernel
theorem dX13_judge_14 : decode cX13_judge 14 = .ok (.aload_n 0, 1) := by decide +kernel
theorem dX13_judge_15 : decode cX13_judge 15 = .ok (.getfield 165, 3) := by decide +kernel
theorem dX13_judge_18 : decode cX13_judge 18 = .ok (.iload_n 1, 1) := by decide +kernel
theorem dX13_judge_19 : decode cX13_judge 19 = .ok (.iaload, 1) := by decide +kernel
theorem dX13_judge_20 : decode cX13_judge 20 = .ok (.iconst (-1), 1) := by decide +kernel
theorem dX13_judge_21 : decode cX13_judge 21 = .ok (.if_icmp .eq 16, 3) := by decide +kernel
theorem dX13_judge_24 : decode cX13_judge 24 = .ok (.aload_n 0, 1) := by decide +kernel
theorem dX13_judge_25 : decode cX13_judge 25 = .ok (.getfield 165, 3) := by decide +kernel
theorem dX13_judge_28 : decode cX13_judge 28 = .ok (.iload_n 1, 1) := by decide +kernel
theorem dX13_judge_29 : decode cX13_judge 29 = .ok (.iaload, 1) := by decide +kernel
theorem dX13_judge_30 : decode cX13_judge 30 = .ok (.iconst 2, 1) := by decide +kernel
theorem dX13_judge_31 : decode cX13_judge 31 = .ok (.if_icmp .eq 6, 3) := by decide +kernel
theorem dX13_judge_34 : decode cX13_judge 34 = .ok (.bipush (-12), 2) := by decide +kernel
theorem dX13_judge_36 : decode cX13_judge 36 = .ok (.ireturn, 1) := by decide +kernel
theorem dX13_judge_37 : decode cX13_judge 37 = .ok (.iconst 0, 1) := by decide +kernel
theorem dX13_judge_38 : decode cX13_judge 38 = .ok (.istore_n 3, 1) := by decide +kernel
theorem dX13_judge_39 : decode cX13_judge 39 = .ok (.iload_n 3, 1) := by decide +kernel
theorem dX13_judge_40 : decode cX13_judge 40 = .ok (.aload_n 0, 1) := by decide +kernel
theorem dX13_judge_41 : decode cX13_judge 41 = .ok (.getfield 340, 3) := by decide +kernel
theorem dX13_judge_44 : decode cX13_judge 44 = .ok (.if_icmp .ge 66, 3) := by decide +kernel
theorem dX13_judge_47 : decode cX13_judge 47 = .ok (.aload_n 0, 1) := by decide +kernel
theorem dX13_judge_48 : decode cX13_judge 48 = .ok (.getfield 165, 3) := by decide +kernel
theorem dX13_judge_51 : decode cX13_judge 51 = .ok (.iload_n 1, 1) := by decide +kernel
theorem dX13_judge_52 : decode cX13_judge 52 = .ok (.iaload, 1) := by decide +kernel
theorem dX13_judge_53 : decode cX13_judge 53 = .ok (.iconst (-1), 1) := by decide +kernel
theorem dX13_judge_54 : decode cX13_judge 54 = .ok (.if_icmp .eq 19, 3) := by decide +kernel
theorem dX13_judge_57 : decode cX13_judge 57 = .ok (.iload_n 2, 1) := by decide +kernel
theorem dX13_judge_58 : decode cX13_judge 58 = .ok (.ifCond .lt 15, 3) := by decide +kernel
theorem dX13_judge_61 : decode cX13_judge 61 = .ok (.iload_n 3, 1) := by decide +kernel
theorem dX13_judge_62 : decode cX13_judge 62 = .ok (.aload_n 0, 1) := by decide +kernel
theorem dX13_judge_63 : decode cX13_judge 63 = .ok (.getfield 168, 3) := by decide +kernel
theorem dX13_judge_66 : decode cX13_judge 66 = .ok (.iload_n 1, 1) := by decide +kernel
theorem dX13_judge_67 : decode cX13_judge 67 = .ok (.iaload, 1) := by decide +kernel
theorem dX13_judge_68 : decode cX13_judge 68 = .ok (.iload_n 2, 1) := by decide +kernel
theorem dX13_judge_69 : decode cX13_judge 69 = .ok (.isub, 1) := by decide +kernel
theorem dX13_judge_70 : decode cX13_judge 70 = .ok (.if_icmp .lt 8, 3) := by decide +kernel
theorem dX13_judge_73 : decode cX13_judge 73 = .ok (.bipush 100, 2) := by decide +kernel
theorem dX13_judge_75 : decode cX13_judge 75 = .ok (.iload_n 3, 1) := by decide +kernel
theorem dX13_judge_76 : decode cX13_judge 76 = .ok (.iadd, 1) := by decide +kernel
theorem dX13_judge_77 : decode cX13_judge 77 = .ok (.ireturn, 1) := by decide +kernel
theorem dX13_judge_78 : decode cX13_judge 78 = .ok (.aload_n 0, 1) := by decide +kernel
theorem dX13_judge_79 : decode cX13_judge 79 = .ok (.getfield 171, 3) := by decide +kernel
theorem dX13_judge_82 : decode cX13_judge 82 = .ok (.bipush 60, 2) := by decide +kernel
theorem dX13_judge_84 : decode cX13_judge 84 = .ok (.iload_n 1, 1) := by decide +kernel
theorem dX13_judge_85 : decode cX13_judge 85 = .ok (.imul, 1) := by decide +kernel
theorem dX13_judge_86 : decode cX13_judge 86 = .ok (.iload_n 2, 1) := by decide +kernel
theorem dX13_judge_87 : decode cX13_judge 87 = .ok (.iadd, 1) := by decide +kernel
theorem dX13_judge_88 : decode cX13_judge 88 = .ok (.iload_n 3, 1) := by decide +kernel
theorem dX13_judge_89 : decode cX13_judge 89 = .ok (.iadd, 1) := by decide +kernel
theorem dX13_judge_90 : decode cX13_judge 90 = .ok (.laload, 1) := by decide +kernel
theorem dX13_judge_91 : decode cX13_judge 91 = .ok (.aload_n 0, 1) := by decide +kernel
theorem dX13_judge_92 : decode cX13_judge 92 = .ok (.getfield 120, 3) := by decide +kernel
theorem dX13_judge_95 : decode cX13_judge 95 = .ok (.iload_n 3, 1) := by decide +kernel
theorem dX13_judge_96 : decode cX13_judge 96 = .ok (.iaload, 1) := by decide +kernel
theorem dX13_judge_97 : decode cX13_judge 97 = .ok (.i2l, 1) := by decide +kernel
theorem dX13_judge_98 : decode cX13_judge 98 = .ok (.lcmp, 1) := by decide +kernel
theorem dX13_judge_99 : decode cX13_judge 99 = .ok (.ifCond .eq 5, 3) := by decide +kernel
theorem dX13_judge_102 : decode cX13_judge 102 = .ok (.iload_n 3, 1) := by decide +kernel
theorem dX13_judge_103 : decode cX13_judge 103 = .ok (.ireturn, 1) := by decide +kernel
theorem dX13_judge_104 : decode cX13_judge 104 = .ok (.iinc 3 1, 3) := by decide +kernel
theorem dX13_judge_107 : decode cX13_judge 107 = .ok (.goto (-68), 3) := by decide +kernel
theorem dX13_judge_110 : decode cX13_judge 110 = .ok (.bipush (-5), 2) := by decide +kernel
theorem dX13_judge_112 : decode cX13_judge 112 = .ok (.ireturn, 1) := by decide +kernel
theorem dX13_tape_0 : decode cX13_tape 0 = .ok (.iload_n 1, 1) := by decide +kernel
theorem dX13_tape_1 : decode cX13_tape 1 = .ok (.i2l, 1) := by decide +kernel
theorem dX13_tape_2 : decode cX13_tape 2 = .ok (.lconst 0, 1) := by decide +kernel
theorem dX13_tape_3 : decode cX13_tape 3 = .ok (.ldc2_w 404, 3) := by decide +kernel
theorem dX13_tape_6 : decode cX13_tape 6 = .ok (.invokestatic 177, 3) := by decide +kernel
theorem dX13_tape_9 : decode cX13_tape 9 = .ok (.ifCond .ne 5, 3) := by decide +kernel
theorem dX13_tape_12 : decode cX13_tape 12 = .ok (.iconst (-1), 1) := by decide +kernel
theorem dX13_tape_13 : decode cX13_tape 13 = .ok (.ireturn, 1) := by decide +kernel
theorem dX13_tape_14 : decode cX13_tape 14 = .ok (.iload_n 2, 1) := by decide +kernel
theorem dX13_tape_15 : decode cX13_tape 15 = .ok (.i2l, 1) := by decide +kernel
theorem dX13_tape_16 : decode cX13_tape 16 = .ok (.ldc2_w 406, 3) := by decide +kernel
theorem dX13_tape_19 : decode cX13_tape 19 = .ok (.ldc2_w 265, 3) := by decide +kernel
theorem dX13_tape_22 : decode cX13_tape 22 = .ok (.invokestatic 177, 3) := by decide +kernel
theorem dX13_tape_25 : decode cX13_tape 25 = .ok (.ifCond .eq 14, 3) := by decide +kernel
theorem dX13_tape_28 : decode cX13_tape 28 = .ok (.iload_n 2, 1) := by decide +kernel
theorem dX13_tape_29 : decode cX13_tape 29 = .ok (.iconst (-1), 1) := by decide +kernel
theorem dX13_tape_30 : decode cX13_tape 30 = .ok (.if_icmp .eq 12, 3) := by decide +kernel
theorem dX13_tape_33 : decode cX13_tape 33 = .ok (.iload_n 3, 1) := by decide +kernel
theorem dX13_tape_34 : decode cX13_tape 34 = .ok (.bipush 60, 2) := by decide +kernel
theorem dX13_tape_36 : decode cX13_tape 36 = .ok (.if_icmp .le 6, 3) := by decide +kernel
theorem dX13_tape_39 : decode cX13_tape 39 = .ok (.bipush (-2), 2) := by decide +kernel
theorem dX13_tape_41 : decode cX13_tape 41 = .ok (.ireturn, 1) := by decide +kernel
theorem dX13_tape_42 : decode cX13_tape 42 = .ok (.iload_n 2, 1) := by decide +kernel
theorem dX13_tape_43 : decode cX13_tape 43 = .ok (.iconst (-1), 1) := by decide +kernel
theorem dX13_tape_44 : decode cX13_tape 44 = .ok (.if_icmp .eq 10, 3) := by decide +kernel
theorem dX13_tape_47 : decode cX13_tape 47 = .ok (.iload_n 3, 1) := by decide +kernel
theorem dX13_tape_48 : decode cX13_tape 48 = .ok (.ifCond .ge 6, 3) := by decide +kernel
theorem dX13_tape_51 : decode cX13_tape 51 = .ok (.bipush (-14), 2) := by decide +kernel
theorem dX13_tape_53 : decode cX13_tape 53 = .ok (.ireturn, 1) := by decide +kernel
theorem dX13_tape_54 : decode cX13_tape 54 = .ok (.aload_n 0, 1) := by decide +kernel
theorem dX13_tape_55 : decode cX13_tape 55 = .ok (.getfield 165, 3) := by decide +kernel
theorem dX13_tape_58 : decode cX13_tape 58 = .ok (.iload_n 1, 1) := by decide +kernel
theorem dX13_tape_59 : decode cX13_tape 59 = .ok (.iload_n 2, 1) := by decide +kernel
theorem dX13_tape_60 : decode cX13_tape 60 = .ok (.iastore, 1) := by decide +kernel
theorem dX13_tape_61 : decode cX13_tape 61 = .ok (.aload_n 0, 1) := by decide +kernel
theorem dX13_tape_62 : decode cX13_tape 62 = .ok (.getfield 168, 3) := by decide +kernel
theorem dX13_tape_65 : decode cX13_tape 65 = .ok (.iload_n 1, 1) := by decide +kernel
theorem dX13_tape_66 : decode cX13_tape 66 = .ok (.iload_n 2, 1) := by decide +kernel
theorem dX13_tape_67 : decode cX13_tape 67 = .ok (.iconst (-1), 1) := by decide +kernel
theorem dX13_tape_68 : decode cX13_tape 68 = .ok (.if_icmp .ne 7, 3) := by decide +kernel
theorem dX13_tape_71 : decode cX13_tape 71 = .ok (.iconst 0, 1) := by decide +kernel
theorem dX13_tape_72 : decode cX13_tape 72 = .ok (.goto 4, 3) := by decide +kernel
theorem dX13_tape_75 : decode cX13_tape 75 = .ok (.iload_n 3, 1) := by decide +kernel
theorem dX13_tape_76 : decode cX13_tape 76 = .ok (.iastore, 1) := by decide +kernel
theorem dX13_tape_77 : decode cX13_tape 77 = .ok (.iconst 0, 1) := by decide +kernel
theorem dX13_tape_78 : decode cX13_tape 78 = .ok (.istore 4, 2) := by decide +kernel
theorem dX13_tape_80 : decode cX13_tape 80 = .ok (.iload 4, 2) := by decide +kernel
theorem dX13_tape_82 : decode cX13_tape 82 = .ok (.bipush 60, 2) := by decide +kernel
theorem dX13_tape_84 : decode cX13_tape 84 = .ok (.if_icmp .ge 22, 3) := by decide +kernel
theorem dX13_tape_87 : decode cX13_tape 87 = .ok (.aload_n 0, 1) := by decide +kernel
theorem dX13_tape_88 : decode cX13_tape 88 = .ok (.getfield 171, 3) := by decide +kernel
theorem dX13_tape_91 : decode cX13_tape 91 = .ok (.bipush 60, 2) := by decide +kernel
theorem dX13_tape_93 : decode cX13_tape 93 = .ok (.iload_n 1, 1) := by decide +kernel
theorem dX13_tape_94 : decode cX13_tape 94 = .ok (.imul, 1) := by decide +kernel
theorem dX13_tape_95 : decode cX13_tape 95 = .ok (.iload 4, 2) := by decide +kernel
theorem dX13_tape_97 : decode cX13_tape 97 = .ok (.iadd, 1) := by decide +kernel
theorem dX13_tape_98 : decode cX13_tape 98 = .ok (.lconst 0, 1) := by decide +kernel
theorem dX13_tape_99 : decode cX13_tape 99 = .ok (.lastore, 1) := by decide +kernel
theorem dX13_tape_100 : decode cX13_tape 100 = .ok (.iinc 4 1, 3) := by decide +kernel
theorem dX13_tape_103 : decode cX13_tape 103 = .ok (.goto (-23), 3) := by decide +kernel
theorem dX13_tape_106 : decode cX13_tape 106 = .ok (.iconst 1, 1) := by decide +kernel
theorem dX13_tape_107 : decode cX13_tape 107 = .ok (.ireturn, 1) := by decide +kernel
theorem dX13_lowestBits_0 : decode cX13_lowestBits 0 = .ok (.iload_n 0, 1) := by decide +kernel
theorem dX13_lowestBits_1 : decode cX13_lowestBits 1 = .ok (.tableswitch 47 0 3 #[31, 36, 41, 45], 31) := by decide +kernel
theorem dX13_lowestBits_32 : decode cX13_lowestBits 32 = .ok (.lload_n 1, 1) := by decide +kernel
theorem dX13_lowestBits_33 : decode cX13_lowestBits 33 = .ok (.l2i, 1) := by decide +kernel
theorem dX13_lowestBits_34 : decode cX13_lowestBits 34 = .ok (.i2b, 1) := by decide +kernel
theorem dX13_lowestBits_35 : decode cX13_lowestBits 35 = .ok (.i2l, 1) := by decide +kernel
theorem dX13_lowestBits_36 : decode cX13_lowestBits 36 = .ok (.lreturn, 1) := by decide +kernel
theorem dX13_lowestBits_37 : decode cX13_lowestBits 37 = .ok (.lload_n 1, 1) := by decide +kernel
theorem dX13_lowestBits_38 : decode cX13_lowestBits 38 = .ok (.l2i, 1) := by decide +kernel
theorem dX13_lowestBits_39 : decode cX13_lowestBits 39 = .ok (.i2s, 1) := by decide +kernel
theorem dX13_lowestBits_40 : decode cX13_lowestBits 40 = .ok (.i2l, 1) := by decide +kernel
theorem dX13_lowestBits_41 : decode cX13_lowestBits 41 = .ok (.lreturn, 1) := by decide +kernel
theorem dX13_lowestBits_42 : decode cX13_lowestBits 42 = .ok (.lload_n 1, 1) := by decide +kernel
theorem dX13_lowestBits_43 : decode cX13_lowestBits 43 = .ok (.l2i, 1) := by decide +kernel
theorem dX13_lowestBits_44 : decode cX13_lowestBits 44 = .ok (.i2l, 1) := by decide +kernel
theorem dX13_lowestBits_45 : decode cX13_lowestBits 45 = .ok (.lreturn, 1) := by decide +kernel
theorem dX13_lowestBits_46 : decode cX13_lowestBits 46 = .ok (.lload_n 1, 1) := by decide +kernel
theorem dX13_lowestBits_47 : decode cX13_lowestBits 47 = .ok (.lreturn, 1) := by decide +kernel
theorem dX13_lowestBits_48 : decode cX13_lowestBits 48 = .ok (.lload_n 1, 1) := by decide +kernel
theorem dX13_lowestBits_49 : decode cX13_lowestBits 49 = .ok (.lconst 0, 1) := by decide +kernel
theorem dX13_lowestBits_50 : decode cX13_lowestBits 50 = .ok (.lcmp, 1) := by decide +kernel
theorem dX13_lowestBits_51 : decode cX13_lowestBits 51 = .ok (.ifCond .ne 7, 3) := by decide +kernel
theorem dX13_lowestBits_54 : decode cX13_lowestBits 54 = .ok (.lconst 0, 1) := by decide +kernel
theorem dX13_lowestBits_55 : decode cX13_lowestBits 55 = .ok (.goto 4, 3) := by decide +kernel
theorem dX13_lowestBits_58 : decode cX13_lowestBits 58 = .ok (.lconst 1, 1) := by decide +kernel
theorem dX13_lowestBits_59 : decode cX13_lowestBits 59 = .ok (.lreturn, 1) := by decide +kernel
theorem dX13_item_0 : decode cX13_item 0 = .ok (.iload_n 1, 1) := by decide +kernel
theorem dX13_item_1 : decode cX13_item 1 = .ok (.i2l, 1) := by decide +kernel
theorem dX13_item_2 : decode cX13_item 2 = .ok (.lconst 0, 1) := by decide +kernel
theorem dX13_item_3 : decode cX13_item 3 = .ok (.ldc2_w 404, 3) := by decide +kernel
theorem dX13_item_6 : decode cX13_item 6 = .ok (.invokestatic 177, 3) := by decide +kernel
theorem dX13_item_9 : decode cX13_item 9 = .ok (.ifCond .ne 5, 3) := by decide +kernel
theorem dX13_item_12 : decode cX13_item 12 = .ok (.iconst (-1), 1) := by decide +kernel
theorem dX13_item_13 : decode cX13_item 13 = .ok (.ireturn, 1) := by decide +kernel
theorem dX13_item_14 : decode cX13_item 14 = .ok (.aload_n 0, 1) := by decide +kernel
theorem dX13_item_15 : decode cX13_item 15 = .ok (.getfield 165, 3) := by decide +kernel
theorem dX13_item_18 : decode cX13_item 18 = .ok (.iload_n 1, 1) := by decide +kernel
theorem dX13_item_19 : decode cX13_item 19 = .ok (.iaload, 1) := by decide +kernel
theorem dX13_item_20 : decode cX13_item 20 = .ok (.iconst (-1), 1) := by decide +kernel
theorem dX13_item_21 : decode cX13_item 21 = .ok (.if_icmp .ne 6, 3) := by decide +kernel
theorem dX13_item_24 : decode cX13_item 24 = .ok (.bipush (-11), 2) := by decide +kernel
theorem dX13_item_26 : decode cX13_item 26 = .ok (.ireturn, 1) := by decide +kernel
theorem dX13_item_27 : decode cX13_item 27 = .ok (.iload_n 2, 1) := by decide +kernel
theorem dX13_item_28 : decode cX13_item 28 = .ok (.i2l, 1) := by decide +kernel
theorem dX13_item_29 : decode cX13_item 29 = .ok (.lconst 0, 1) := by decide +kernel
theorem dX13_item_30 : decode cX13_item 30 = .ok (.aload_n 0, 1) := by decide +kernel
theorem dX13_item_31 : decode cX13_item 31 = .ok (.getfield 168, 3) := by decide +kernel
theorem dX13_item_34 : decode cX13_item 34 = .ok (.iload_n 1, 1) := by decide +kernel
theorem dX13_item_35 : decode cX13_item 35 = .ok (.iaload, 1) := by decide +kernel
theorem dX13_item_36 : decode cX13_item 36 = .ok (.iconst 1, 1) := by decide +kernel
theorem dX13_item_37 : decode cX13_item 37 = .ok (.isub, 1) := by decide +kernel
theorem dX13_item_38 : decode cX13_item 38 = .ok (.i2l, 1) := by decide +kernel
theorem dX13_item_39 : decode cX13_item 39 = .ok (.invokestatic 177, 3) := by decide +kernel
theorem dX13_item_42 : decode cX13_item 42 = .ok (.ifCond .ne 6, 3) := by decide +kernel
theorem dX13_item_45 : decode cX13_item 45 = .ok (.bipush (-13), 2) := by decide +kernel
theorem dX13_item_47 : decode cX13_item 47 = .ok (.ireturn, 1) := by decide +kernel
theorem dX13_item_48 : decode cX13_item 48 = .ok (.aload_n 0, 1) := by decide +kernel
theorem dX13_item_49 : decode cX13_item 49 = .ok (.getfield 171, 3) := by decide +kernel
theorem dX13_item_52 : decode cX13_item 52 = .ok (.bipush 60, 2) := by decide +kernel
theorem dX13_item_54 : decode cX13_item 54 = .ok (.iload_n 1, 1) := by decide +kernel
theorem dX13_item_55 : decode cX13_item 55 = .ok (.imul, 1) := by decide +kernel
theorem dX13_item_56 : decode cX13_item 56 = .ok (.iload_n 2, 1) := by decide +kernel
theorem dX13_item_57 : decode cX13_item 57 = .ok (.iadd, 1) := by decide +kernel
theorem dX13_item_58 : decode cX13_item 58 = .ok (.aload_n 0, 1) := by decide +kernel
theorem dX13_item_59 : decode cX13_item 59 = .ok (.getfield 165, 3) := by decide +kernel
theorem dX13_item_62 : decode cX13_item 62 = .ok (.iload_n 1, 1) := by decide +kernel
theorem dX13_item_63 : decode cX13_item 63 = .ok (.iaload, 1) := by decide +kernel
theorem dX13_item_64 : decode cX13_item 64 = .ok (.lload_n 3, 1) := by decide +kernel
theorem dX13_item_65 : decode cX13_item 65 = .ok (.invokestatic 408, 3) := by decide +kernel
theorem dX13_item_68 : decode cX13_item 68 = .ok (.lastore, 1) := by decide +kernel
theorem dX13_item_69 : decode cX13_item 69 = .ok (.iconst 1, 1) := by decide +kernel
theorem dX13_item_70 : decode cX13_item 70 = .ok (.ireturn, 1) := by decide +kernel
theorem dX13_read_0 : decode cX13_read 0 = .ok (.iload_n 1, 1) := by decide +kernel
theorem dX13_read_1 : decode cX13_read 1 = .ok (.i2l, 1) := by decide +kernel
theorem dX13_read_2 : decode cX13_read 2 = .ok (.lconst 0, 1) := by decide +kernel
theorem dX13_read_3 : decode cX13_read 3 = .ok (.ldc2_w 404, 3) := by decide +kernel
theorem dX13_read_6 : decode cX13_read 6 = .ok (.invokestatic 177, 3) := by decide +kernel
theorem dX13_read_9 : decode cX13_read 9 = .ok (.ifCond .eq 35, 3) := by decide +kernel
theorem dX13_read_12 : decode cX13_read 12 = .ok (.iload_n 2, 1) := by decide +kernel
theorem dX13_read_13 : decode cX13_read 13 = .ok (.i2l, 1) := by decide +kernel
theorem dX13_read_14 : decode cX13_read 14 = .ok (.lconst 0, 1) := by decide +kernel
theorem dX13_read_15 : decode cX13_read 15 = .ok (.aload_n 0, 1) := by decide +kernel
theorem dX13_read_16 : decode cX13_read 16 = .ok (.getfield 168, 3) := by decide +kernel
theorem dX13_read_19 : decode cX13_read 19 = .ok (.iload_n 1, 1) := by decide +kernel
theorem dX13_read_20 : decode cX13_read 20 = .ok (.iaload, 1) := by decide +kernel
theorem dX13_read_21 : decode cX13_read 21 = .ok (.iconst 1, 1) := by decide +kernel
theorem dX13_read_22 : decode cX13_read 22 = .ok (.isub, 1) := by decide +kernel
theorem dX13_read_23 : decode cX13_read 23 = .ok (.i2l, 1) := by decide +kernel
theorem dX13_read_24 : decode cX13_read 24 = .ok (.invokestatic 177, 3) := by decide +kernel
theorem dX13_read_27 : decode cX13_read 27 = .ok (.ifCond .eq 17, 3) := by decide +kernel
theorem dX13_read_30 : decode cX13_read 30 = .ok (.aload_n 0, 1) := by decide +kernel
theorem dX13_read_31 : decode cX13_read 31 = .ok (.getfield 171, 3) := by decide +kernel
theorem dX13_read_34 : decode cX13_read 34 = .ok (.bipush 60, 2) := by decide +kernel
theorem dX13_read_36 : decode cX13_read 36 = .ok (.iload_n 1, 1) := by decide +kernel
theorem dX13_read_37 : decode cX13_read 37 = .ok (.imul, 1) := by decide +kernel
theorem dX13_read_38 : decode cX13_read 38 = .ok (.iload_n 2, 1) := by decide +kernel
theorem dX13_read_39 : decode cX13_read 39 = .ok (.iadd, 1) := by decide +kernel
theorem dX13_read_40 : decode cX13_read 40 = .ok (.laload, 1) := by decide +kernel
theorem dX13_read_41 : decode cX13_read 41 = .ok (.goto 6, 3) := by decide +kernel
theorem dX13_read_44 : decode cX13_read 44 = .ok (.ldc2_w 267, 3) := by decide +kernel
theorem dX13_read_47 : decode cX13_read 47 = .ok (.lreturn, 1) := by decide +kernel
theorem dX13_shift_0 : decode cX13_shift 0 = .ok (.iload_n 1, 1) := by decide +kernel
theorem dX13_shift_1 : decode cX13_shift 1 = .ok (.i2l, 1) := by decide +kernel
theorem dX13_shift_2 : decode cX13_shift 2 = .ok (.lconst 0, 1) := by decide +kernel
theorem dX13_shift_3 : decode cX13_shift 3 = .ok (.ldc2_w 404, 3) := by decide +kernel
theorem dX13_shift_6 : decode cX13_shift 6 = .ok (.invokestatic 177, 3) := by decide +kernel
theorem dX13_shift_9 : decode cX13_shift 9 = .ok (.ifCond .eq 15, 3) := by decide +kernel
theorem dX13_shift_12 : decode cX13_shift 12 = .ok (.iload_n 3, 1) := by decide +kernel
theorem dX13_shift_13 : decode cX13_shift 13 = .ok (.i2l, 1) := by decide +kernel
theorem dX13_shift_14 : decode cX13_shift 14 = .ok (.lconst 0, 1) := by decide +kernel
theorem dX13_shift_15 : decode cX13_shift 15 = .ok (.ldc2_w 404, 3) := by decide +kernel
theorem dX13_shift_18 : decode cX13_shift 18 = .ok (.invokestatic 177, 3) := by decide +kernel
theorem dX13_shift_21 : decode cX13_shift 21 = .ok (.ifCond .ne 5, 3) := by decide +kernel
theorem dX13_shift_24 : decode cX13_shift 24 = .ok (.iconst (-1), 1) := by decide +kernel
theorem dX13_shift_25 : decode cX13_shift 25 = .ok (.ireturn, 1) := by decide +kernel
theorem dX13_shift_26 : decode cX13_shift 26 = .ok (.aload_n 0, 1) := by decide +kernel
theorem dX13_shift_27 : decode cX13_shift 27 = .ok (.getfield 165, 3) := by decide +kernel
theorem dX13_shift_30 : decode cX13_shift 30 = .ok (.iload_n 1, 1) := by decide +kernel
theorem dX13_shift_31 : decode cX13_shift 31 = .ok (.iaload, 1) := by decide +kernel
theorem dX13_shift_32 : decode cX13_shift 32 = .ok (.iconst (-1), 1) := by decide +kernel
theorem dX13_shift_33 : decode cX13_shift 33 = .ok (.if_icmp .eq 13, 3) := by decide +kernel
theorem dX13_shift_36 : decode cX13_shift 36 = .ok (.aload_n 0, 1) := by decide +kernel
theorem dX13_shift_37 : decode cX13_shift 37 = .ok (.getfield 165, 3) := by decide +kernel
theorem dX13_shift_40 : decode cX13_shift 40 = .ok (.iload_n 3, 1) := by decide +kernel
theorem dX13_shift_41 : decode cX13_shift 41 = .ok (.iaload, 1) := by decide +kernel
theorem dX13_shift_42 : decode cX13_shift 42 = .ok (.iconst (-1), 1) := by decide +kernel
theorem dX13_shift_43 : decode cX13_shift 43 = .ok (.if_icmp .ne 6, 3) := by decide +kernel
theorem dX13_shift_46 : decode cX13_shift 46 = .ok (.bipush (-11), 2) := by decide +kernel
theorem dX13_shift_48 : decode cX13_shift 48 = .ok (.ireturn, 1) := by decide +kernel
theorem dX13_shift_49 : decode cX13_shift 49 = .ok (.aload_n 0, 1) := by decide +kernel
theorem dX13_shift_50 : decode cX13_shift 50 = .ok (.getfield 165, 3) := by decide +kernel
theorem dX13_shift_53 : decode cX13_shift 53 = .ok (.iload_n 1, 1) := by decide +kernel
theorem dX13_shift_54 : decode cX13_shift 54 = .ok (.iaload, 1) := by decide +kernel
theorem dX13_shift_55 : decode cX13_shift 55 = .ok (.aload_n 0, 1) := by decide +kernel
theorem dX13_shift_56 : decode cX13_shift 56 = .ok (.getfield 165, 3) := by decide +kernel
theorem dX13_shift_59 : decode cX13_shift 59 = .ok (.iload_n 3, 1) := by decide +kernel
theorem dX13_shift_60 : decode cX13_shift 60 = .ok (.iaload, 1) := by decide +kernel
theorem dX13_shift_61 : decode cX13_shift 61 = .ok (.if_icmp .eq 6, 3) := by decide +kernel
theorem dX13_shift_64 : decode cX13_shift 64 = .ok (.bipush (-12), 2) := by decide +kernel
theorem dX13_shift_66 : decode cX13_shift 66 = .ok (.ireturn, 1) := by decide +kernel
theorem dX13_shift_67 : decode cX13_shift 67 = .ok (.iload 5, 2) := by decide +kernel
theorem dX13_shift_69 : decode cX13_shift 69 = .ok (.ifCond .lt 60, 3) := by decide +kernel
theorem dX13_shift_72 : decode cX13_shift 72 = .ok (.iload_n 2, 1) := by decide +kernel
theorem dX13_shift_73 : decode cX13_shift 73 = .ok (.ifCond .lt 56, 3) := by decide +kernel
theorem dX13_shift_76 : decode cX13_shift 76 = .ok (.iload 4, 2) := by decide +kernel
theorem dX13_shift_78 : decode cX13_shift 78 = .ok (.ifCond .lt 51, 3) := by decide +kernel
theorem dX13_shift_81 : decode cX13_shift 81 = .ok (.iload_n 2, 1) := by decide +kernel
theorem dX13_shift_82 : decode cX13_shift 82 = .ok (.aload_n 0, 1) := by decide +kernel
theorem dX13_shift_83 : decode cX13_shift 83 = .ok (.getfield 168, 3) := by decide +kernel
theorem dX13_shift_86 : decode cX13_shift 86 = .ok (.iload_n 1, 1) := by decide +kernel
theorem dX13_shift_87 : decode cX13_shift 87 = .ok (.iaload, 1) := by decide +kernel
theorem dX13_shift_88 : decode cX13_shift 88 = .ok (.if_icmp .gt 41, 3) := by decide +kernel
theorem dX13_shift_91 : decode cX13_shift 91 = .ok (.iload 4, 2) := by decide +kernel
theorem dX13_shift_93 : decode cX13_shift 93 = .ok (.aload_n 0, 1) := by decide +kernel
theorem dX13_shift_94 : decode cX13_shift 94 = .ok (.getfield 168, 3) := by decide +kernel
theorem dX13_shift_97 : decode cX13_shift 97 = .ok (.iload_n 3, 1) := by decide +kernel
theorem dX13_shift_98 : decode cX13_shift 98 = .ok (.iaload, 1) := by decide +kernel
theorem dX13_shift_99 : decode cX13_shift 99 = .ok (.if_icmp .gt 30, 3) := by decide +kernel
theorem dX13_shift_102 : decode cX13_shift 102 = .ok (.iload 5, 2) := by decide +kernel
theorem dX13_shift_104 : decode cX13_shift 104 = .ok (.aload_n 0, 1) := by decide +kernel
theorem dX13_shift_105 : decode cX13_shift 105 = .ok (.getfield 168, 3) := by decide +kernel
theorem dX13_shift_108 : decode cX13_shift 108 = .ok (.iload_n 1, 1) := by decide +kernel
theorem dX13_shift_109 : decode cX13_shift 109 = .ok (.iaload, 1) := by decide +kernel
theorem dX13_shift_110 : decode cX13_shift 110 = .ok (.iload_n 2, 1) := by decide +kernel
theorem dX13_shift_111 : decode cX13_shift 111 = .ok (.isub, 1) := by decide +kernel
theorem dX13_shift_112 : decode cX13_shift 112 = .ok (.if_icmp .gt 17, 3) := by decide +kernel
theorem dX13_shift_115 : decode cX13_shift 115 = .ok (.iload 5, 2) := by decide +kernel
theorem dX13_shift_117 : decode cX13_shift 117 = .ok (.aload_n 0, 1) := by decide +kernel
theorem dX13_shift_118 : decode cX13_shift 118 = .ok (.getfield 168, 3) := by decide +kernel
theorem dX13_shift_121 : decode cX13_shift 121 = .ok (.iload_n 3, 1) := by decide +kernel
theorem dX13_shift_122 : decode cX13_shift 122 = .ok (.iaload, 1) := by decide +kernel
theorem dX13_shift_123 : decode cX13_shift 123 = .ok (.iload 4, 2) := by decide +kernel
theorem dX13_shift_125 : decode cX13_shift 125 = .ok (.isub, 1) := by decide +kernel
theorem dX13_shift_126 : decode cX13_shift 126 = .ok (.if_icmp .le 6, 3) := by decide +kernel
theorem dX13_shift_129 : decode cX13_shift 129 = .ok (.bipush (-13), 2) := by decide +kernel
theorem dX13_shift_131 : decode cX13_shift 131 = .ok (.ireturn, 1) := by decide +kernel
theorem dX13_shift_132 : decode cX13_shift 132 = .ok (.iconst 0, 1) := by decide +kernel
theorem dX13_shift_133 : decode cX13_shift 133 = .ok (.istore 6, 2) := by decide +kernel
theorem dX13_shift_135 : decode cX13_shift 135 = .ok (.iload 6, 2) := by decide +kernel
theorem dX13_shift_137 : decode cX13_shift 137 = .ok (.iload 5, 2) := by decide +kernel
theorem dX13_shift_139 : decode cX13_shift 139 = .ok (.if_icmp .ge 58, 3) := by decide +kernel
theorem dX13_shift_142 : decode cX13_shift 142 = .ok (.iload_n 2, 1) := by decide +kernel
theorem dX13_shift_143 : decode cX13_shift 143 = .ok (.iload 4, 2) := by decide +kernel
theorem dX13_shift_145 : decode cX13_shift 145 = .ok (.if_icmp .ge 13, 3) := by decide +kernel
theorem dX13_shift_148 : decode cX13_shift 148 = .ok (.iload 5, 2) := by decide +kernel
theorem dX13_shift_150 : decode cX13_shift 150 = .ok (.iconst 1, 1) := by decide +kernel
theorem dX13_shift_151 : decode cX13_shift 151 = .ok (.isub, 1) := by decide +kernel
theorem dX13_shift_152 : decode cX13_shift 152 = .ok (.iload 6, 2) := by decide +kernel
theorem dX13_shift_154 : decode cX13_shift 154 = .ok (.isub, 1) := by decide +kernel
theorem dX13_shift_155 : decode cX13_shift 155 = .ok (.goto 5, 3) := by decide +kernel
theorem dX13_shift_158 : decode cX13_shift 158 = .ok (.iload 6, 2) := by decide +kernel
theorem dX13_shift_160 : decode cX13_shift 160 = .ok (.istore 7, 2) := by decide +kernel
theorem dX13_shift_162 : decode cX13_shift 162 = .ok (.aload_n 0, 1) := by decide +kernel
theorem dX13_shift_163 : decode cX13_shift 163 = .ok (.getfield 171, 3) := by decide +kernel
theorem dX13_shift_166 : decode cX13_shift 166 = .ok (.bipush 60, 2) := by decide +kernel
theorem dX13_shift_168 : decode cX13_shift 168 = .ok (.iload_n 3, 1) := by decide +kernel
theorem dX13_shift_169 : decode cX13_shift 169 = .ok (.imul, 1) := by decide +kernel
theorem dX13_shift_170 : decode cX13_shift 170 = .ok (.iload 4, 2) := by decide +kernel
theorem dX13_shift_172 : decode cX13_shift 172 = .ok (.iadd, 1) := by decide +kernel
theorem dX13_shift_173 : decode cX13_shift 173 = .ok (.iload 7, 2) := by decide +kernel
theorem dX13_shift_175 : decode cX13_shift 175 = .ok (.iadd, 1) := by decide +kernel
theorem dX13_shift_176 : decode cX13_shift 176 = .ok (.aload_n 0, 1) := by decide +kernel
theorem dX13_shift_177 : decode cX13_shift 177 = .ok (.getfield 171, 3) := by decide +kernel
theorem dX13_shift_180 : decode cX13_shift 180 = .ok (.bipush 60, 2) := by decide +kernel
theorem dX13_shift_182 : decode cX13_shift 182 = .ok (.iload_n 1, 1) := by decide +kernel
theorem dX13_shift_183 : decode cX13_shift 183 = .ok (.imul, 1) := by decide +kernel
theorem dX13_shift_184 : decode cX13_shift 184 = .ok (.iload_n 2, 1) := by decide +kernel
theorem dX13_shift_185 : decode cX13_shift 185 = .ok (.iadd, 1) := by decide +kernel
theorem dX13_shift_186 : decode cX13_shift 186 = .ok (.iload 7, 2) := by decide +kernel
theorem dX13_shift_188 : decode cX13_shift 188 = .ok (.iadd, 1) := by decide +kernel
theorem dX13_shift_189 : decode cX13_shift 189 = .ok (.laload, 1) := by decide +kernel
theorem dX13_shift_190 : decode cX13_shift 190 = .ok (.lastore, 1) := by decide +kernel
theorem dX13_shift_191 : decode cX13_shift 191 = .ok (.iinc 6 1, 3) := by decide +kernel
theorem dX13_shift_194 : decode cX13_shift 194 = .ok (.goto (-59), 3) := by decide +kernel
theorem dX13_shift_197 : decode cX13_shift 197 = .ok (.iload 5, 2) := by decide +kernel
theorem dX13_shift_199 : decode cX13_shift 199 = .ok (.ireturn, 1) := by decide +kernel
