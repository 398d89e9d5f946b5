theorem dL_randomShow_3 : decode cL_randomShow 3 = .ok (.dup, 1) := by decide +kernel
theorem dL_randomShow_4 : decode cL_randomShow 4 = .ok (.invokespecial 107, 3) := by decide +kernel
theorem dL_randomShow_7 : decode cL_randomShow 7 = .ok (.astore_n 3, 1) := by decide +kernel
theorem dL_randomShow_8 : decode cL_randomShow 8 = .ok (.aload_n 3, 1) := by decide +kernel
theorem dL_randomShow_9 : decode cL_randomShow 9 = .ok (.iconst 1, 1) := by decide +kernel
theorem dL_randomShow_10 : decode cL_randomShow 10 = .ok (.aload_n 2, 1) := by decide +kernel
theorem dL_randomShow_11 : decode cL_randomShow 11 = .ok (.bipush 6, 2) := by decide +kernel
theorem dL_randomShow_13 : decode cL_randomShow 13 = .ok (.invokevirtual 108, 3) := by decide +kernel
theorem dL_randomShow_16 : decode cL_randomShow 16 = .ok (.iadd, 1) := by decide +kernel
theorem dL_randomShow_17 : decode cL_randomShow 17 = .ok (.putfield 113, 3) := by decide +kernel
theorem dL_randomShow_20 : decode cL_randomShow 20 = .ok (.aload_n 3, 1) := by decide +kernel
theorem dL_randomShow_21 : decode cL_randomShow 21 = .ok (.iconst 1, 1) := by decide +kernel
theorem dL_randomShow_22 : decode cL_randomShow 22 = .ok (.aload_n 2, 1) := by decide +kernel
theorem dL_randomShow_23 : decode cL_randomShow 23 = .ok (.iconst 4, 1) := by decide +kernel
theorem dL_randomShow_24 : decode cL_randomShow 24 = .ok (.invokevirtual 108, 3) := by decide +kernel
theorem dL_randomShow_27 : decode cL_randomShow 27 = .ok (.iadd, 1) := by decide +kernel
theorem dL_randomShow_28 : decode cL_randomShow 28 = .ok (.putfield 117, 3) := by decide +kernel
theorem dL_randomShow_31 : decode cL_randomShow 31 = .ok (.iconst 1, 1) := by decide +kernel
theorem dL_randomShow_32 : decode cL_randomShow 32 = .ok (.aload_n 2, 1) := by decide +kernel
theorem dL_randomShow_33 : decode cL_randomShow 33 = .ok (.iconst 4, 1) := by decide +kernel
theorem dL_randomShow_34 : decode cL_randomShow 34 = .ok (.invokevirtual 108, 3) := by decide +kernel
theorem dL_randomShow_37 : decode cL_randomShow 37 = .ok (.iadd, 1) := by decide +kernel
theorem dL_randomShow_38 : decode cL_randomShow 38 = .ok (.istore 4, 2) := by decide +kernel
theorem dL_randomShow_40 : decode cL_randomShow 40 = .ok (.aload_n 0, 1) := by decide +kernel
theorem dL_randomShow_41 : decode cL_randomShow 41 = .ok (.aload_n 1, 1) := by decide +kernel
theorem dL_randomShow_42 : decode cL_randomShow 42 = .ok (.ldc 120, 2) := by decide +kernel
theorem dL_randomShow_44 : decode cL_randomShow 44 = .ok (.iconst 3, 1) := by decide +kernel
theorem dL_randomShow_45 : decode cL_randomShow 45 = .ok (.newarray .int, 2) := by decide +kernel
theorem dL_randomShow_47 : decode cL_randomShow 47 = .ok (.dup, 1) := by decide +kernel
theorem dL_randomShow_48 : decode cL_randomShow 48 = .ok (.iconst 0, 1) := by decide +kernel
theorem dL_randomShow_49 : decode cL_randomShow 49 = .ok (.aload_n 3, 1) := by decide +kernel
theorem dL_randomShow_50 : decode cL_randomShow 50 = .ok (.getfield 113, 3) := by decide +kernel
theorem dL_randomShow_53 : decode cL_randomShow 53 = .ok (.iastore, 1) := by decide +kernel
theorem dL_randomShow_54 : decode cL_randomShow 54 = .ok (.dup, 1) := by decide +kernel
theorem dL_randomShow_55 : decode cL_randomShow 55 = .ok (.iconst 1, 1) := by decide +kernel
theorem dL_randomShow_56 : decode cL_randomShow 56 = .ok (.aload_n 3, 1) := by decide +kernel
theorem dL_randomShow_57 : decode cL_randomShow 57 = .ok (.getfield 117, 3) := by decide +kernel
theorem dL_randomShow_60 : decode cL_randomShow 60 = .ok (.iastore, 1) := by decide +kernel
theorem dL_randomShow_61 : decode cL_randomShow 61 = .ok (.dup, 1) := by decide +kernel
theorem dL_randomShow_62 : decode cL_randomShow 62 = .ok (.iconst 2, 1) := by decide +kernel
theorem dL_randomShow_63 : decode cL_randomShow 63 = .ok (.iload 4, 2) := by decide +kernel
theorem dL_randomShow_65 : decode cL_randomShow 65 = .ok (.iastore, 1) := by decide +kernel
theorem dL_randomShow_66 : decode cL_randomShow 66 = .ok (.invokestatic 122, 3) := by decide +kernel
theorem dL_randomShow_69 : decode cL_randomShow 69 = .ok (.aload_n 0, 1) := by decide +kernel
theorem dL_randomShow_70 : decode cL_randomShow 70 = .ok (.aload_n 1, 1) := by decide +kernel
theorem dL_randomShow_71 : decode cL_randomShow 71 = .ok (.ldc 126, 2) := by decide +kernel
theorem dL_randomShow_73 : decode cL_randomShow 73 = .ok (.invokestatic 96, 3) := by decide +kernel
theorem dL_randomShow_76 : decode cL_randomShow 76 = .ok (.aload_n 3, 1) := by decide +kernel
theorem dL_randomShow_77 : decode cL_randomShow 77 = .ok (.iload 4, 2) := by decide +kernel
theorem dL_randomShow_79 : decode cL_randomShow 79 = .ok (.invokevirtual 128, 3) := by decide +kernel
theorem dL_randomShow_82 : decode cL_randomShow 82 = .ok (.pop, 1) := by decide +kernel
theorem dL_randomShow_83 : decode cL_randomShow 83 = .ok (.aload_n 2, 1) := by decide +kernel
theorem dL_randomShow_84 : decode cL_randomShow 84 = .ok (.iload 4, 2) := by decide +kernel
theorem dL_randomShow_86 : decode cL_randomShow 86 = .ok (.iconst 1, 1) := by decide +kernel
theorem dL_randomShow_87 : decode cL_randomShow 87 = .ok (.iadd, 1) := by decide +kernel
theorem dL_randomShow_88 : decode cL_randomShow 88 = .ok (.invokevirtual 108, 3) := by decide +kernel
theorem dL_randomShow_91 : decode cL_randomShow 91 = .ok (.istore 5, 2) := by decide +kernel
theorem dL_randomShow_93 : decode cL_randomShow 93 = .ok (.iconst 0, 1) := by decide +kernel
theorem dL_randomShow_94 : decode cL_randomShow 94 = .ok (.istore 6, 2) := by decide +kernel
theorem dL_randomShow_96 : decode cL_randomShow 96 = .ok (.iload 6, 2) := by decide +kernel
theorem dL_randomShow_98 : decode cL_randomShow 98 = .ok (.iload 5, 2) := by decide +kernel
theorem dL_randomShow_100 : decode cL_randomShow 100 = .ok (.if_icmp .ge 140, 3) := by decide +kernel
theorem dL_randomShow_103 : decode cL_randomShow 103 = .ok (.aload_n 0, 1) := by decide +kernel
theorem dL_randomShow_104 : decode cL_randomShow 104 = .ok (.aload_n 1, 1) := by decide +kernel
theorem dL_randomShow_105 : decode cL_randomShow 105 = .ok (.ldc 132, 2) := by decide +kernel
theorem dL_randomShow_107 : decode cL_randomShow 107 = .ok (.invokestatic 96, 3) := by decide +kernel
theorem dL_randomShow_110 : decode cL_randomShow 110 = .ok (.iconst 0, 1) := by decide +kernel
theorem dL_randomShow_111 : decode cL_randomShow 111 = .ok (.istore 7, 2) := by decide +kernel
theorem dL_randomShow_113 : decode cL_randomShow 113 = .ok (.iload 7, 2) := by decide +kernel
theorem dL_randomShow_115 : decode cL_randomShow 115 = .ok (.aload_n 3, 1) := by decide +kernel
theorem dL_randomShow_116 : decode cL_randomShow 116 = .ok (.getfield 117, 3) := by decide +kernel
theorem dL_randomShow_119 : decode cL_randomShow 119 = .ok (.if_icmp .ge 108, 3) := by decide +kernel
theorem dL_randomShow_122 : decode cL_randomShow 122 = .ok (.ldc 133, 2) := by decide +kernel
theorem dL_randomShow_124 : decode cL_randomShow 124 = .ok (.astore 8, 2) := by decide +kernel
theorem dL_randomShow_126 : decode cL_randomShow 126 = .ok (.iconst 0, 1) := by decide +kernel
theorem dL_randomShow_127 : decode cL_randomShow 127 = .ok (.istore 9, 2) := by decide +kernel
theorem dL_randomShow_129 : decode cL_randomShow 129 = .ok (.iload 9, 2) := by decide +kernel
theorem dL_randomShow_131 : decode cL_randomShow 131 = .ok (.aload_n 3, 1) := by decide +kernel
theorem dL_randomShow_132 : decode cL_randomShow 132 = .ok (.getfield 113, 3) := by decide +kernel
theorem dL_randomShow_135 : decode cL_randomShow 135 = .ok (.if_icmp .ge 60, 3) := by decide +kernel
theorem dL_randomShow_138 : decode cL_randomShow 138 = .ok (.new 135, 3) := by decide +kernel
theorem dL_randomShow_141 : decode cL_randomShow 141 = .ok (.dup, 1) := by decide +kernel
theorem dL_randomShow_142 : decode cL_randomShow 142 = .ok (.invokespecial 137, 3) := by decide +kernel
theorem dL_randomShow_145 : decode cL_randomShow 145 = .ok (.aload 8, 2) := by decide +kernel
theorem dL_randomShow_147 : decode cL_randomShow 147 = .ok (.invokevirtual 138, 3) := by decide +kernel
theorem dL_randomShow_150 : decode cL_randomShow 150 = .ok (.iload 6, 2) := by decide +kernel
theorem dL_randomShow_152 : decode cL_randomShow 152 = .ok (.iconst 1, 1) := by decide +kernel
theorem dL_randomShow_153 : decode cL_randomShow 153 = .ok (.iadd, 1) := by decide +kernel
theorem dL_randomShow_154 : decode cL_randomShow 154 = .ok (.iload 4, 2) := by decide +kernel
theorem dL_randomShow_156 : decode cL_randomShow 156 = .ok (.if_icmp .ge 16, 3) := by decide +kernel
theorem dL_randomShow_159 : decode cL_randomShow 159 = .ok (.aload_n 2, 1) := by decide +kernel
theorem dL_randomShow_160 : decode cL_randomShow 160 = .ok (.iconst 2, 1) := by decide +kernel
theorem dL_randomShow_161 : decode cL_randomShow 161 = .ok (.invokevirtual 108, 3) := by decide +kernel
theorem dL_randomShow_164 : decode cL_randomShow 164 = .ok (.ifCond .ne 8, 3) := by decide +kernel
theorem dL_randomShow_167 : decode cL_randomShow 167 = .ok (.bipush 46, 2) := by decide +kernel
theorem dL_randomShow_169 : decode cL_randomShow 169 = .ok (.goto 11, 3) := by decide +kernel
theorem dL_randomShow_172 : decode cL_randomShow 172 = .ok (.bipush 97, 2) := by decide +kernel
theorem dL_randomShow_174 : decode cL_randomShow 174 = .ok (.aload_n 2, 1) := by decide +kernel
theorem dL_randomShow_175 : decode cL_randomShow 175 = .ok (.iconst 4, 1) := by decide +kernel
theorem dL_randomShow_176 : decode cL_randomShow 176 = .ok (.invokevirtual 108, 3) := by decide +kernel
theorem dL_randomShow_179 : decode cL_randomShow 179 = .ok (.iadd, 1) := by decide +kernel
theorem dL_randomShow_180 : decode cL_randomShow 180 = .ok (.i2c, 1) := by decide +kernel
theorem dL_randomShow_181 : decode cL_randomShow 181 = .ok (.invokevirtual 141, 3) := by decide +kernel
theorem dL_randomShow_184 : decode cL_randomShow 184 = .ok (.invokevirtual 144, 3) := by decide +kernel
theorem dL_randomShow_187 : decode cL_randomShow 187 = .ok (.astore 8, 2) := by decide +kernel
theorem dL_randomShow_189 : decode cL_randomShow 189 = .ok (.iinc 9 1, 3) := by decide +kernel
theorem dL_randomShow_192 : decode cL_randomShow 192 = .ok (.goto (-63), 3) := by decide +kernel
theorem dL_randomShow_195 : decode cL_randomShow 195 = .ok (.aload_n 3, 1) := by decide +kernel
theorem dL_randomShow_196 : decode cL_randomShow 196 = .ok (.getfield 148, 3) := by decide +kernel
theorem dL_randomShow_199 : decode cL_randomShow 199 = .ok (.iload 6, 2) := by decide +kernel
theorem dL_randomShow_201 : decode cL_randomShow 201 = .ok (.aaload, 1) := by decide +kernel
theorem dL_randomShow_202 : decode cL_randomShow 202 = .ok (.iload 7, 2) := by decide +kernel
theorem dL_randomShow_204 : decode cL_randomShow 204 = .ok (.aload 8, 2) := by decide +kernel
theorem dL_randomShow_206 : decode cL_randomShow 206 = .ok (.aastore, 1) := by decide +kernel
theorem dL_randomShow_207 : decode cL_randomShow 207 = .ok (.aload_n 0, 1) := by decide +kernel
theorem dL_randomShow_208 : decode cL_randomShow 208 = .ok (.aload_n 1, 1) := by decide +kernel
theorem dL_randomShow_209 : decode cL_randomShow 209 = .ok (.ldc 100, 2) := by decide +kernel
theorem dL_randomShow_211 : decode cL_randomShow 211 = .ok (.invokestatic 96, 3) := by decide +kernel
theorem dL_randomShow_214 : decode cL_randomShow 214 = .ok (.aload_n 0, 1) := by decide +kernel
theorem dL_randomShow_215 : decode cL_randomShow 215 = .ok (.aload_n 1, 1) := by decide +kernel
theorem dL_randomShow_216 : decode cL_randomShow 216 = .ok (.aload 8, 2) := by decide +kernel
theorem dL_randomShow_218 : decode cL_randomShow 218 = .ok (.invokestatic 96, 3) := by decide +kernel
theorem dL_randomShow_221 : decode cL_randomShow 221 = .ok (.iinc 7 1, 3) := by decide +kernel
theorem dL_randomShow_224 : decode cL_randomShow 224 = .ok (.goto (-111), 3) := by decide +kernel
theorem dL_randomShow_227 : decode cL_randomShow 227 = .ok (.aload_n 0, 1) := by decide +kernel
theorem dL_randomShow_228 : decode cL_randomShow 228 = .ok (.aload_n 1, 1) := by decide +kernel
theorem dL_randomShow_229 : decode cL_randomShow 229 = .ok (.ldc 126, 2) := by decide +kernel
theorem dL_randomShow_231 : decode cL_randomShow 231 = .ok (.invokestatic 96, 3) := by decide +kernel
theorem dL_randomShow_234 : decode cL_randomShow 234 = .ok (.iinc 6 1, 3) := by decide +kernel
theorem dL_randomShow_237 : decode cL_randomShow 237 = .ok (.goto (-141), 3) := by decide +kernel
theorem dL_randomShow_240 : decode cL_randomShow 240 = .ok (.aload_n 2, 1) := by decide +kernel
theorem dL_randomShow_241 : decode cL_randomShow 241 = .ok (.iconst 4, 1) := by decide +kernel
theorem dL_randomShow_242 : decode cL_randomShow 242 = .ok (.invokevirtual 108, 3) := by decide +kernel
theorem dL_randomShow_245 : decode cL_randomShow 245 = .ok (.istore 6, 2) := by decide +kernel
theorem dL_randomShow_247 : decode cL_randomShow 247 = .ok (.iload 6, 2) := by decide +kernel
theorem dL_randomShow_249 : decode cL_randomShow 249 = .ok (.ifCond .le 14, 3) := by decide +kernel
theorem dL_randomShow_252 : decode cL_randomShow 252 = .ok (.aload_n 3, 1) := by decide +kernel
theorem dL_randomShow_253 : decode cL_randomShow 253 = .ok (.iload 6, 2) := by decide +kernel
theorem dL_randomShow_255 : decode cL_randomShow 255 = .ok (.iconst 2, 1) := by decide +kernel
theorem dL_randomShow_256 : decode cL_randomShow 256 = .ok (.multianewarray 152 2, 4) := by decide +kernel
theorem dL_randomShow_260 : decode cL_randomShow 260 = .ok (.putfield 154, 3) := by decide +kernel
theorem dL_randomShow_263 : decode cL_randomShow 263 = .ok (.iconst 0, 1) := by decide +kernel
theorem dL_randomShow_264 : decode cL_randomShow 264 = .ok (.istore 7, 2) := by decide +kernel
theorem dL_randomShow_266 : decode cL_randomShow 266 = .ok (.iload 7, 2) := by decide +kernel
theorem dL_randomShow_268 : decode cL_randomShow 268 = .ok (.iload 6, 2) := by decide +kernel
theorem dL_randomShow_270 : decode cL_randomShow 270 = .ok (.if_icmp .ge 64, 3) := by decide +kernel
theorem dL_randomShow_273 : decode cL_randomShow 273 = .ok (.aload_n 3, 1) := by decide +kernel
theorem dL_randomShow_274 : decode cL_randomShow 274 = .ok (.getfield 154, 3) := by decide +kernel
theorem dL_randomShow_277 : decode cL_randomShow 277 = .ok (.iload 7, 2) := by decide +kernel
theorem dL_randomShow_279 : decode cL_randomShow 279 = .ok (.aaload, 1) := by decide +kernel
theorem dL_randomShow_280 : decode cL_randomShow 280 = .ok (.iconst 0, 1) := by decide +kernel
theorem dL_randomShow_281 : decode cL_randomShow 281 = .ok (.aload_n 2, 1) := by decide +kernel
theorem dL_randomShow_282 : decode cL_randomShow 282 = .ok (.aload_n 3, 1) := by decide +kernel
theorem dL_randomShow_283 : decode cL_randomShow 283 = .ok (.getfield 113, 3) := by decide +kernel
theorem dL_randomShow_286 : decode cL_randomShow 286 = .ok (.invokevirtual 108, 3) := by decide +kernel
theorem dL_randomShow_289 : decode cL_randomShow 289 = .ok (.iastore, 1) := by decide +kernel
theorem dL_randomShow_290 : decode cL_randomShow 290 = .ok (.aload_n 3, 1) := by decide +kernel
theorem dL_randomShow_291 : decode cL_randomShow 291 = .ok (.getfield 154, 3) := by decide +kernel
theorem dL_randomShow_294 : decode cL_randomShow 294 = .ok (.iload 7, 2) := by decide +kernel
theorem dL_randomShow_296 : decode cL_randomShow 296 = .ok (.aaload, 1) := by decide +kernel
theorem dL_randomShow_297 : decode cL_randomShow 297 = .ok (.iconst 1, 1) := by decide +kernel
theorem dL_randomShow_298 : decode cL_randomShow 298 = .ok (.aload_n 2, 1) := by decide +kernel
theorem dL_randomShow_299 : decode cL_randomShow 299 = .ok (.aload_n 3, 1) := by decide +kernel
theorem dL_randomShow_300 : decode cL_randomShow 300 = .ok (.getfield 117, 3) := by decide +kernel
theorem dL_randomShow_303 : decode cL_randomShow 303 = .ok (.invokevirtual 108, 3) := by decide +kernel
theorem dL_randomShow_306 : decode cL_randomShow 306 = .ok (.iastore, 1) := by decide +kernel
theorem dL_randomShow_307 : decode cL_randomShow 307 = .ok (.aload_n 0, 1) := by decide +kernel
theorem dL_randomShow_308 : decode cL_randomShow 308 = .ok (.aload_n 1, 1) := by decide +kernel
theorem dL_randomShow_309 : decode cL_randomShow 309 = .ok (.ldc 157, 2) := by decide +kernel
theorem dL_randomShow_311 : decode cL_randomShow 311 = .ok (.aload_n 3, 1) := by decide +kernel
theorem dL_randomShow_312 : decode cL_randomShow 312 = .ok (.getfield 154, 3) := by decide +kernel
theorem dL_randomShow_315 : decode cL_randomShow 315 = .ok (.iload 7, 2) := by decide +kernel
theorem dL_randomShow_317 : decode cL_randomShow 317 = .ok (.aaload, 1) := by decide +kernel
theorem dL_randomShow_318 : decode cL_randomShow 318 = .ok (.invokestatic 122, 3) := by decide +kernel
theorem dL_randomShow_321 : decode cL_randomShow 321 = .ok (.aload_n 0, 1) := by decide +kernel
theorem dL_randomShow_322 : decode cL_randomShow 322 = .ok (.aload_n 1, 1) := by decide +kernel
theorem dL_randomShow_323 : decode cL_randomShow 323 = .ok (.ldc 126, 2) := by decide +kernel
theorem dL_randomShow_325 : decode cL_randomShow 325 = .ok (.invokestatic 96, 3) := by decide +kernel
theorem dL_randomShow_328 : decode cL_randomShow 328 = .ok (.iinc 7 1, 3) := by decide +kernel
theorem dL_randomShow_331 : decode cL_randomShow 331 = .ok (.goto (-65), 3) := by decide +kernel
theorem dL_randomShow_334 : decode cL_randomShow 334 = .ok (.aload_n 2, 1) := by decide +kernel
theorem dL_randomShow_335 : decode cL_randomShow 335 = .ok (.iconst 2, 1) := by decide +kernel
theorem dL_randomShow_336 : decode cL_randomShow 336 = .ok (.invokevirtual 108, 3) := by decide +kernel
theorem dL_randomShow_339 : decode cL_randomShow 339 = .ok (.ifCond .ne 66, 3) := by decide +kernel
theorem dL_randomShow_342 : decode cL_randomShow 342 = .ok (.aload_n 3, 1) := by decide +kernel
theorem dL_randomShow_343 : decode cL_randomShow 343 = .ok (.aload_n 2, 1) := by decide +kernel
theorem dL_randomShow_344 : decode cL_randomShow 344 = .ok (.bipush 10, 2) := by decide +kernel
theorem dL_randomShow_346 : decode cL_randomShow 346 = .ok (.invokevirtual 108, 3) := by decide +kernel
theorem dL_randomShow_349 : decode cL_randomShow 349 = .ok (.putfield 158, 3) := by decide +kernel
theorem dL_randomShow_352 : decode cL_randomShow 352 = .ok (.aload_n 3, 1) := by decide +kernel
theorem dL_randomShow_353 : decode cL_randomShow 353 = .ok (.iconst 1, 1) := by decide +kernel
theorem dL_randomShow_354 : decode cL_randomShow 354 = .ok (.aload_n 2, 1) := by decide +kernel
theorem dL_randomShow_355 : decode cL_randomShow 355 = .ok (.bipush 6, 2) := by decide +kernel
theorem dL_randomShow_357 : decode cL_randomShow 357 = .ok (.invokevirtual 108, 3) := by decide +kernel
theorem dL_randomShow_360 : decode cL_randomShow 360 = .ok (.iadd, 1) := by decide +kernel
theorem dL_randomShow_361 : decode cL_randomShow 361 = .ok (.putfield 161, 3) := by decide +kernel
theorem dL_randomShow_364 : decode cL_randomShow 364 = .ok (.aload_n 0, 1) := by decide +kernel
theorem dL_randomShow_365 : decode cL_randomShow 365 = .ok (.aload_n 1, 1) := by decide +kernel
theorem dL_randomShow_366 : decode cL_randomShow 366 = .ok (.ldc 163, 2) := by decide +kernel
theorem dL_randomShow_368 : decode cL_randomShow 368 = .ok (.iconst 1, 1) := by decide +kernel
theorem dL_randomShow_369 : decode cL_randomShow 369 = .ok (.newarray .int, 2) := by decide +kernel
theorem dL_randomShow_371 : decode cL_randomShow 371 = .ok (.dup, 1) := by decide +kernel
theorem dL_randomShow_372 : decode cL_randomShow 372 = .ok (.iconst 0, 1) := by decide +kernel
theorem dL_randomShow_373 : decode cL_randomShow 373 = .ok (.aload_n 3, 1) := by decide +kernel
theorem dL_randomShow_374 : decode cL_randomShow 374 = .ok (.getfield 158, 3) := by decide +kernel
theorem dL_randomShow_377 : decode cL_randomShow 377 = .ok (.iastore, 1) := by decide +kernel
theorem dL_randomShow_378 : decode cL_randomShow 378 = .ok (.invokestatic 122, 3) := by decide +kernel
theorem dL_randomShow_381 : decode cL_randomShow 381 = .ok (.aload_n 0, 1) := by decide +kernel
theorem dL_randomShow_382 : decode cL_randomShow 382 = .ok (.aload_n 1, 1) := by decide +kernel
theorem dL_randomShow_383 : decode cL_randomShow 383 = .ok (.ldc 164, 2) := by decide +kernel
theorem dL_randomShow_385 : decode cL_randomShow 385 = .ok (.iconst 1, 1) := by decide +kernel
theorem dL_randomShow_386 : decode cL_randomShow 386 = .ok (.newarray .int, 2) := by decide +kernel
theorem dL_randomShow_388 : decode cL_randomShow 388 = .ok (.dup, 1) := by decide +kernel
theorem dL_randomShow_389 : decode cL_randomShow 389 = .ok (.iconst 0, 1) := by decide +kernel
theorem dL_randomShow_390 : decode cL_randomShow 390 = .ok (.aload_n 3, 1) := by decide +kernel
theorem dL_randomShow_391 : decode cL_randomShow 391 = .ok (.getfield 161, 3) := by decide +kernel
theorem dL_randomShow_394 : decode cL_randomShow 394 = .ok (.iastore, 1) := by decide +kernel
theorem dL_randomShow_395 : decode cL_randomShow 395 = .ok (.invokestatic 122, 3) := by decide +kernel
theorem dL_randomShow_398 : decode cL_randomShow 398 = .ok (.aload_n 0, 1) := by decide +kernel
theorem dL_randomShow_399 : decode cL_randomShow 399 = .ok (.aload_n 1, 1) := by decide +kernel
theorem dL_randomShow_400 : decode cL_randomShow 400 = .ok (.ldc 126, 2) := by decide +kernel
theorem dL_randomShow_402 : decode cL_randomShow 402 = .ok (.invokestatic 96, 3) := by decide +kernel
theorem dL_randomShow_405 : decode cL_randomShow 405 = .ok (.aload_n 2, 1) := by decide +kernel
theorem dL_randomShow_406 : decode cL_randomShow 406 = .ok (.bipush 6, 2) := by decide +kernel
theorem dL_randomShow_408 : decode cL_randomShow 408 = .ok (.invokevirtual 108, 3) := by decide +kernel
theorem dL_randomShow_411 : decode cL_randomShow 411 = .ok (.istore 7, 2) := by decide +kernel
theorem dL_randomShow_413 : decode cL_randomShow 413 = .ok (.iconst 0, 1) := by decide +kernel
theorem dL_randomShow_414 : decode cL_randomShow 414 = .ok (.istore 8, 2) := by decide +kernel
theorem dL_randomShow_416 : decode cL_randomShow 416 = .ok (.iload 8, 2) := by decide +kernel
theorem dL_randomShow_418 : decode cL_randomShow 418 = .ok (.iload 7, 2) := by decide +kernel
theorem dL_randomShow_420 : decode cL_randomShow 420 = .ok (.if_icmp .ge 116, 3) := by decide +kernel
theorem dL_randomShow_423 : decode cL_randomShow 423 = .ok (.new 166, 3) := by decide +kernel
theorem dL_randomShow_426 : decode cL_randomShow 426 = .ok (.dup, 1) := by decide +kernel
theorem dL_randomShow_427 : decode cL_randomShow 427 = .ok (.aload_n 2, 1) := by decide +kernel
theorem dL_randomShow_428 : decode cL_randomShow 428 = .ok (.bipush 6, 2) := by decide +kernel
theorem dL_randomShow_430 : decode cL_randomShow 430 = .ok (.invokevirtual 108, 3) := by decide +kernel
theorem dL_randomShow_433 : decode cL_randomShow 433 = .ok (.aload_n 2, 1) := by decide +kernel
theorem dL_randomShow_434 : decode cL_randomShow 434 = .ok (.iconst 5, 1) := by decide +kernel
theorem dL_randomShow_435 : decode cL_randomShow 435 = .ok (.invokevirtual 108, 3) := by decide +kernel
theorem dL_randomShow_438 : decode cL_randomShow 438 = .ok (.aload_n 2, 1) := by decide +kernel
theorem dL_randomShow_439 : decode cL_randomShow 439 = .ok (.bipush 30, 2) := by decide +kernel
theorem dL_randomShow_441 : decode cL_randomShow 441 = .ok (.invokevirtual 108, 3) := by decide +kernel
theorem dL_randomShow_444 : decode cL_randomShow 444 = .ok (.invokespecial 168, 3) := by decide +kernel
theorem dL_randomShow_447 : decode cL_randomShow 447 = .ok (.astore 9, 2) := by decide +kernel
theorem dL_randomShow_449 : decode cL_randomShow 449 = .ok (.aload_n 3, 1) := by decide +kernel
theorem dL_randomShow_450 : decode cL_randomShow 450 = .ok (.aload 9, 2) := by decide +kernel
theorem dL_randomShow_452 : decode cL_randomShow 452 = .ok (.invokevirtual 171, 3) := by decide +kernel
theorem dL_randomShow_455 : decode cL_randomShow 455 = .ok (.aload_n 0, 1) := by decide +kernel
theorem dL_randomShow_456 : decode cL_randomShow 456 = .ok (.aload_n 1, 1) := by decide +kernel
theorem dL_randomShow_457 : decode cL_randomShow 457 = .ok (.ldc 175, 2) := by decide +kernel
theorem dL_randomShow_459 : decode cL_randomShow 459 = .ok (.iconst 1, 1) := by decide +kernel
theorem dL_randomShow_460 : decode cL_randomShow 460 = .ok (.newarray .int, 2) := by decide +kernel
theorem dL_randomShow_462 : decode cL_randomShow 462 = .ok (.dup, 1) := by decide +kernel
theorem dL_randomShow_463 : decode cL_randomShow 463 = .ok (.iconst 0, 1) := by decide +kernel
theorem dL_randomShow_464 : decode cL_randomShow 464 = .ok (.aload 9, 2) := by decide +kernel
theorem dL_randomShow_466 : decode cL_randomShow 466 = .ok (.getfield 176, 3) := by decide +kernel
theorem dL_randomShow_469 : decode cL_randomShow 469 = .ok (.iastore, 1) := by decide +kernel
theorem dL_randomShow_470 : decode cL_randomShow 470 = .ok (.invokestatic 122, 3) := by decide +kernel
theorem dL_randomShow_473 : decode cL_randomShow 473 = .ok (.aload_n 0, 1) := by decide +kernel
theorem dL_randomShow_474 : decode cL_randomShow 474 = .ok (.aload_n 1, 1) := by decide +kernel
theorem dL_randomShow_475 : decode cL_randomShow 475 = .ok (.new 135, 3) := by decide +kernel
theorem dL_randomShow_478 : decode cL_randomShow 478 = .ok (.dup, 1) := by decide +kernel
theorem dL_randomShow_479 : decode cL_randomShow 479 = .ok (.invokespecial 137, 3) := by decide +kernel
theorem dL_randomShow_482 : decode cL_randomShow 482 = .ok (.ldc 100, 2) := by decide +kernel
theorem dL_randomShow_484 : decode cL_randomShow 484 = .ok (.invokevirtual 138, 3) := by decide +kernel
theorem dL_randomShow_487 : decode cL_randomShow 487 = .ok (.bipush 97, 2) := by decide +kernel
theorem dL_randomShow_489 : decode cL_randomShow 489 = .ok (.aload 9, 2) := by decide +kernel
theorem dL_randomShow_491 : decode cL_randomShow 491 = .ok (.getfield 179, 3) := by decide +kernel
theorem dL_randomShow_494 : decode cL_randomShow 494 = .ok (.iadd, 1) := by decide +kernel
theorem dL_randomShow_495 : decode cL_randomShow 495 = .ok (.i2c, 1) := by decide +kernel
theorem dL_randomShow_496 : decode cL_randomShow 496 = .ok (.invokevirtual 141, 3) := by decide +kernel
theorem dL_randomShow_499 : decode cL_randomShow 499 = .ok (.invokevirtual 144, 3) := by decide +kernel
theorem dL_randomShow_502 : decode cL_randomShow 502 = .ok (.invokestatic 96, 3) := by decide +kernel
theorem dL_randomShow_505 : decode cL_randomShow 505 = .ok (.aload_n 0, 1) := by decide +kernel
theorem dL_randomShow_506 : decode cL_randomShow 506 = .ok (.aload_n 1, 1) := by decide +kernel
theorem dL_randomShow_507 : decode cL_randomShow 507 = .ok (.ldc 133, 2) := by decide +kernel
theorem dL_randomShow_509 : decode cL_randomShow 509 = .ok (.iconst 1, 1) := by decide +kernel
theorem dL_randomShow_510 : decode cL_randomShow 510 = .ok (.newarray .int, 2) := by decide +kernel
theorem dL_randomShow_512 : decode cL_randomShow 512 = .ok (.dup, 1) := by decide +kernel
theorem dL_randomShow_513 : decode cL_randomShow 513 = .ok (.iconst 0, 1) := by decide +kernel
theorem dL_randomShow_514 : decode cL_randomShow 514 = .ok (.aload 9, 2) := by decide +kernel
theorem dL_randomShow_516 : decode cL_randomShow 516 = .ok (.getfield 182, 3) := by decide +kernel
theorem dL_randomShow_519 : decode cL_randomShow 519 = .ok (.iastore, 1) := by decide +kernel
theorem dL_randomShow_520 : decode cL_randomShow 520 = .ok (.invokestatic 122, 3) := by decide +kernel
theorem dL_randomShow_523 : decode cL_randomShow 523 = .ok (.aload_n 0, 1) := by decide +kernel
theorem dL_randomShow_524 : decode cL_randomShow 524 = .ok (.aload_n 1, 1) := by decide +kernel
theorem dL_randomShow_525 : decode cL_randomShow 525 = .ok (.ldc 126, 2) := by decide +kernel
theorem dL_randomShow_527 : decode cL_randomShow 527 = .ok (.invokestatic 96, 3) := by decide +kernel
theorem dL_randomShow_530 : decode cL_randomShow 530 = .ok (.iinc 8 1, 3) := by decide +kernel
theorem dL_randomShow_533 : decode cL_randomShow 533 = .ok (.goto (-117), 3) := by decide +kernel
theorem dL_randomShow_536 : decode cL_randomShow 536 = .ok (.aload_n 2, 1) := by decide +kernel
theorem dL_randomShow_537 : decode cL_randomShow 537 = .ok (.iconst 2, 1) := by decide +kernel
theorem dL_randomShow_538 : decode cL_randomShow 538 = .ok (.invokevirtual 108, 3) := by decide +kernel
theorem dL_randomShow_541 : decode cL_randomShow 541 = .ok (.ifCond .ne 43, 3) := by decide +kernel
theorem dL_randomShow_544 : decode cL_randomShow 544 = .ok (.aload_n 3, 1) := by decide +kernel
theorem dL_randomShow_545 : decode cL_randomShow 545 = .ok (.aload_n 2, 1) := by decide +kernel
theorem dL_randomShow_546 : decode cL_randomShow 546 = .ok (.aload_n 2, 1) := by decide +kernel
theorem dL_randomShow_547 : decode cL_randomShow 547 = .ok (.iconst 3, 1) := by decide +kernel
theorem dL_randomShow_548 : decode cL_randomShow 548 = .ok (.invokevirtual 108, 3) := by decide +kernel
theorem dL_randomShow_551 : decode cL_randomShow 551 = .ok (.invokestatic 185, 3) := by decide +kernel
theorem dL_randomShow_554 : decode cL_randomShow 554 = .ok (.putfield 191, 3) := by decide +kernel
theorem dL_randomShow_557 : decode cL_randomShow 557 = .ok (.aload_n 0, 1) := by decide +kernel
theorem dL_randomShow_558 : decode cL_randomShow 558 = .ok (.aload_n 1, 1) := by decide +kernel
theorem dL_randomShow_559 : decode cL_randomShow 559 = .ok (.ldc 195, 2) := by decide +kernel
theorem dL_randomShow_561 : decode cL_randomShow 561 = .ok (.invokestatic 96, 3) := by decide +kernel
theorem dL_randomShow_564 : decode cL_randomShow 564 = .ok (.aload_n 0, 1) := by decide +kernel
theorem dL_randomShow_565 : decode cL_randomShow 565 = .ok (.aload_n 1, 1) := by decide +kernel
theorem dL_randomShow_566 : decode cL_randomShow 566 = .ok (.aload_n 3, 1) := by decide +kernel
theorem dL_randomShow_567 : decode cL_randomShow 567 = .ok (.getfield 191, 3) := by decide +kernel
theorem dL_randomShow_570 : decode cL_randomShow 570 = .ok (.iconst 0, 1) := by decide +kernel
theorem dL_randomShow_571 : decode cL_randomShow 571 = .ok (.invokevirtual 197, 3) := by decide +kernel
theorem dL_randomShow_574 : decode cL_randomShow 574 = .ok (.invokestatic 96, 3) := by decide +kernel
theorem dL_randomShow_577 : decode cL_randomShow 577 = .ok (.aload_n 0, 1) := by decide +kernel
theorem dL_randomShow_578 : decode cL_randomShow 578 = .ok (.aload_n 1, 1) := by decide +kernel
theorem dL_randomShow_579 : decode cL_randomShow 579 = .ok (.ldc 201, 2) := by decide +kernel
theorem dL_randomShow_581 : decode cL_randomShow 581 = .ok (.invokestatic 96, 3) := by decide +kernel
theorem dL_randomShow_584 : decode cL_randomShow 584 = .ok (.aload_n 0, 1) := by decide +kernel
theorem dL_randomShow_585 : decode cL_randomShow 585 = .ok (.aload_n 1, 1) := by decide +kernel
theorem dL_randomShow_586 : decode cL_randomShow 586 = .ok (.invokestatic 203, 3) := by decide +kernel
theorem dL_randomShow_589 : decode cL_randomShow 589 = .ok (.iload 7, 2) := by decide +kernel
theorem dL_randomShow_591 : decode cL_randomShow 591 = .ok (.if_icmp .ne 7, 3) := by decide +kernel
theorem dL_randomShow_594 : decode cL_randomShow 594 = .ok (.aload_n 3, 1) := by decide +kernel
theorem dL_randomShow_595 : decode cL_randomShow 595 = .ok (.goto 4, 3) := by decide +kernel
theorem dL_randomShow_598 : decode cL_randomShow 598 = .ok (.aconst_null, 1) := by decide +kernel
theorem dL_randomShow_599 : decode cL_randomShow 599 = .ok (.areturn, 1) := by decide +kernel
set_option maxRecDepth 20000 in
theorem ggL_agrees_X6_checksum : GoodIn wsL_agrees wsX6_checksum := goodIn_ca (goodIn_ca (goodIn_r _ [10, 11, 12, 13, 14, 15, 16, 17, 18, 19, 20, 9, 21, 22, 23, 24, 25, 26, 27, 28, 29, 30, 31, 32, 33, 34, 35, 36, 37, 38, 39, 40, 41, 42, 43, 44, 45, 46, 47, 48, 49, 50, 51, 52, 53, 54, 55, 56, 57, 58, 59, 60, 61, 62, 63, 64, 65, 66, 67, 68, 69, 70, 71, 72, 73, 74, 75, 76, 77, 78, 79, 80, 81, 82, 83, 84, 85, 86, 87, 88, 89, 90, 91, 92, 93, 94, 95, 96, 97, 98, 99, 100, 101, 102, 103, 104, 105, 245, 246, 247, 248, 249, 250, 251, 252, 253, 254, 255, 256, 257, 258, 259, 260, 261, 262, 263, 264, 265, 266, 267, 268, 269, 270, 271, 272, 273, 274] (by decide +kernel) (by decide +kernel)) (goodIn_sub (fun _ h => List.mem_cons_of_mem _ (List.mem_append_left _ (List.mem_append_right _ h))) (by decide +kernel))) (goodIn_sub (fun _ h => List.mem_cons_of_mem _ (List.mem_append_right _ h)) (by decide +kernel))
set_option maxRecDepth 20000 in
theorem gL_agrees_X6_checksum : GoodIn wsL_agrees (wsV RL 207 RX6 yX6_checksum wsX6_checksum) := goodIn_app (goodIn_of _ (by decide +kernel)) ggL_agrees_X6_checksum
set_option maxRecDepth 20000 in
theorem ggL_agrees_X10_checksum : GoodIn wsL_agrees wsX10_checksum := goodIn_r _ [110, 111, 112, 113, 114, 115, 116, 117, 109, 118, 119, 120, 121, 122, 123, 124, 125, 126, 127, 128, 129, 130, 131, 132, 133, 134, 135, 136, 137, 138, 139, 140, 141, 142, 143, 144, 145, 146, 147, 148, 149, 150, 151, 152, 153, 154, 155, 156, 157, 158, 159, 160, 161, 162, 163, 164, 165, 166, 167, 168, 169, 170, 171, 172, 173, 174, 175, 176, 177, 178, 179, 180, 181, 182, 183, 184, 185, 186, 187, 188, 189, 190, 191, 192, 193, 194, 195, 196, 197, 198, 199, 200, 201, 202, 203, 204, 205, 206, 207, 208, 209, 210, 211, 212, 213, 234, 235, 236, 237, 238, 239, 240, 241, 242, 243, 244, 275, 276, 277, 278, 279, 280, 281, 282, 283, 284, 285] (by decide +kernel) (by decide +kernel)
set_option maxRecDepth 20000 in
theorem gL_agrees_X10_checksum : GoodIn wsL_agrees (wsV RL 211 RX10 yX10_checksum wsX10_checksum) := goodIn_app (goodIn_of _ (by decide +kernel)) ggL_agrees_X10_checksum
set_option maxRecDepth 20000 in
theorem ggL_agrees_L_state : GoodIn wsL_agrees wsL_state := goodIn_ca (goodIn_r _ [217, 218, 1, 219, 19, 20, 9, 21, 22, 23, 12, 13, 16, 24, 25, 14, 15, 26, 27, 28, 17, 29, 30, 31, 32, 33, 34, 35, 36, 37, 38, 39, 40, 41, 42, 43, 245, 246, 247, 248, 249, 250, 251, 252, 253, 254, 255, 256, 257, 258, 259, 260, 261, 262, 263, 264, 265, 266, 267, 268, 269] (by decide +kernel) (by decide +kernel)) (goodIn_sub (fun _ h => List.mem_cons_of_mem _ (List.mem_append_left _ (List.mem_append_right _ h))) (by decide +kernel))
set_option maxRecDepth 20000 in
theorem gL_agrees_L_state : GoodIn wsL_agrees (va_wsS RL 212 yL_state wsL_state) := goodIn_app (goodIn_of _ (by decide +kernel)) ggL_agrees_L_state
set_option maxRecDepth 20000 in
theorem ggL_agrees_L_plane : GoodIn wsL_agrees wsL_plane := goodIn_ca (goodIn_ca (goodIn_r _ [222, 223, 218, 3, 1, 224, 45, 46, 9, 47, 22, 23, 12, 13, 48, 49, 50, 51, 52, 53, 54, 55, 14, 56, 57, 58, 59, 60, 61, 62, 63, 64, 65, 66, 67, 68, 69, 70, 71, 72, 73, 74, 75, 76, 77, 78, 79, 80, 245, 246, 247, 248, 249, 250, 251, 252, 253, 254, 255, 256, 257, 258, 259, 260, 261, 262, 263, 264, 270, 271, 272, 273, 274] (by decide +kernel) (by decide +kernel)) (goodIn_sub (fun _ h => List.mem_cons_of_mem _ (List.mem_append_left _ (List.mem_append_right _ h))) (by decide +kernel))) (goodIn_sub (fun _ h => List.mem_cons_of_mem _ (List.mem_append_right _ h)) (by decide +kernel))
set_option maxRecDepth 20000 in
theorem gL_agrees_L_plane : GoodIn wsL_agrees (va_wsS RL 214 yL_plane wsL_plane) := goodIn_app (goodIn_of _ (by decide +kernel)) ggL_agrees_L_plane
set_option maxRecDepth 20000 in
theorem ggL_agrees_L_hole : GoodIn wsL_agrees wsL_hole := goodIn_ca (goodIn_ca (goodIn_r _ [227, 223, 218, 3, 1, 228, 82, 83, 9, 84, 22, 23, 12, 13, 85, 86, 16, 87, 49, 88, 89, 90, 91, 92, 93, 54, 55, 15, 245, 246, 247, 248, 249, 250, 251, 252, 253, 254, 255, 256, 257, 258, 259, 260, 261, 262, 263, 264, 265, 266, 267, 268, 269, 270, 271, 272, 273, 274] (by decide +kernel) (by decide +kernel)) (goodIn_sub (fun _ h => List.mem_cons_of_mem _ (List.mem_append_left _ (List.mem_append_right _ h))) (by decide +kernel))) (goodIn_sub (fun _ h => List.mem_cons_of_mem _ (List.mem_append_right _ h)) (by decide +kernel))
set_option maxRecDepth 20000 in
theorem gL_agrees_L_hole : GoodIn wsL_agrees (va_wsS RL 217 yL_hole wsL_hole) := goodIn_app (goodIn_of _ (by decide +kernel)) ggL_agrees_L_hole
set_option maxRecDepth 20000 in
theorem ggL_agrees_L_viewer : GoodIn wsL_agrees wsL_viewer := goodIn_ca (goodIn_ca (goodIn_r _ [231, 223, 218, 3, 1, 232, 95, 96, 9, 97, 12, 16, 98, 99, 100, 101, 54, 55, 17, 102, 103, 104, 22, 23, 105, 36, 37, 32, 38, 39, 245, 246, 247, 248, 249, 250, 251, 252, 253, 254, 265, 266, 267, 268, 269] (by decide +kernel) (by decide +kernel)) (goodIn_sub (fun _ h => List.mem_cons_of_mem _ (List.mem_append_right _ h)) (by decide +kernel))) (goodIn_sub (fun _ h => List.mem_cons_of_mem _ (List.mem_append_left _ (List.mem_append_right _ h))) (by decide +kernel))
set_option maxRecDepth 20000 in
theorem gL_agrees_L_viewer : GoodIn wsL_agrees (va_wsS RL 223 yL_viewer wsL_viewer) := goodIn_app (goodIn_of _ (by decide +kernel)) ggL_agrees_L_viewer
set_option maxRecDepth 20000 in
theorem ggL_agrees_X10_told : GoodIn wsL_agrees wsX10_told := goodIn_r _ [118, 113, 119, 120, 112, 121, 122, 123, 114, 124, 125, 126, 109, 127, 128, 129, 130, 131, 132, 133, 134, 135, 136, 137, 138, 234, 235, 236, 237, 238, 239, 240, 241, 242, 243, 244, 275, 276, 277, 278, 279, 280, 281] (by decide +kernel) (by decide +kernel)
set_option maxRecDepth 20000 in
theorem gL_agrees_X10_told : GoodIn wsL_agrees (wsV RL 225 RX10 yX10_told wsX10_told) := goodIn_app (goodIn_of _ (by decide +kernel)) ggL_agrees_X10_told
theorem dL_agrees_0 : decode cL_agrees 0 = .ok (.aload_n 0, 1) := by decide +kernel
theorem dL_agrees_1 : decode cL_agrees 1 = .ok (.invokevirtual 207, 3) := by decide +kernel
theorem dL_agrees_4 : decode cL_agrees 4 = .ok (.aload_n 1, 1) := by decide +kernel
theorem dL_agrees_5 : decode cL_agrees 5 = .ok (.invokevirtual 211, 3) := by decide +kernel
theorem dL_agrees_8 : decode cL_agrees 8 = .ok (.lcmp, 1) := by decide +kernel
theorem dL_agrees_9 : decode cL_agrees 9 = .ok (.ifCond .ne 63, 3) := by decide +kernel
theorem dL_agrees_12 : decode cL_agrees 12 = .ok (.aload_n 0, 1) := by decide +kernel
theorem dL_agrees_13 : decode cL_agrees 13 = .ok (.bipush 14, 2) := by decide +kernel
theorem dL_agrees_15 : decode cL_agrees 15 = .ok (.invokestatic 212, 3) := by decide +kernel
theorem dL_agrees_18 : decode cL_agrees 18 = .ok (.ldc 42, 2) := by decide +kernel
theorem dL_agrees_20 : decode cL_agrees 20 = .ok (.if_icmp .ne 52, 3) := by decide +kernel
theorem dL_agrees_23 : decode cL_agrees 23 = .ok (.aload_n 0, 1) := by decide +kernel
theorem dL_agrees_24 : decode cL_agrees 24 = .ok (.aload_n 1, 1) := by decide +kernel
theorem dL_agrees_25 : decode cL_agrees 25 = .ok (.getfield 148, 3) := by decide +kernel
theorem dL_agrees_28 : decode cL_agrees 28 = .ok (.arraylength, 1) := by decide +kernel
theorem dL_agrees_29 : decode cL_agrees 29 = .ok (.iconst 0, 1) := by decide +kernel
theorem dL_agrees_30 : decode cL_agrees 30 = .ok (.invokestatic 214, 3) := by decide +kernel
theorem dL_agrees_33 : decode cL_agrees 33 = .ok (.ldc 52, 2) := by decide +kernel
theorem dL_agrees_35 : decode cL_agrees 35 = .ok (.if_icmp .ne 37, 3) := by decide +kernel
theorem dL_agrees_38 : decode cL_agrees 38 = .ok (.aload_n 0, 1) := by decide +kernel
theorem dL_agrees_39 : decode cL_agrees 39 = .ok (.aload_n 1, 1) := by decide +kernel
theorem dL_agrees_40 : decode cL_agrees 40 = .ok (.getfield 154, 3) := by decide +kernel
theorem dL_agrees_43 : decode cL_agrees 43 = .ok (.arraylength, 1) := by decide +kernel
theorem dL_agrees_44 : decode cL_agrees 44 = .ok (.iconst 0, 1) := by decide +kernel
theorem dL_agrees_45 : decode cL_agrees 45 = .ok (.invokestatic 217, 3) := by decide +kernel
theorem dL_agrees_48 : decode cL_agrees 48 = .ok (.ldc 52, 2) := by decide +kernel
theorem dL_agrees_50 : decode cL_agrees 50 = .ok (.if_icmp .ne 22, 3) := by decide +kernel
theorem dL_agrees_53 : decode cL_agrees 53 = .ok (.aload_n 0, 1) := by decide +kernel
theorem dL_agrees_54 : decode cL_agrees 54 = .ok (.aload_n 1, 1) := by decide +kernel
theorem dL_agrees_55 : decode cL_agrees 55 = .ok (.getfield 219, 3) := by decide +kernel
theorem dL_agrees_58 : decode cL_agrees 58 = .ok (.arraylength, 1) := by decide +kernel
theorem dL_agrees_59 : decode cL_agrees 59 = .ok (.iconst 0, 1) := by decide +kernel
theorem dL_agrees_60 : decode cL_agrees 60 = .ok (.invokestatic 223, 3) := by decide +kernel
theorem dL_agrees_63 : decode cL_agrees 63 = .ok (.ldc 52, 2) := by decide +kernel
theorem dL_agrees_65 : decode cL_agrees 65 = .ok (.if_icmp .ne 7, 3) := by decide +kernel
theorem dL_agrees_68 : decode cL_agrees 68 = .ok (.iconst 1, 1) := by decide +kernel
theorem dL_agrees_69 : decode cL_agrees 69 = .ok (.goto 4, 3) := by decide +kernel
theorem dL_agrees_72 : decode cL_agrees 72 = .ok (.iconst 0, 1) := by decide +kernel
theorem dL_agrees_73 : decode cL_agrees 73 = .ok (.istore_n 2, 1) := by decide +kernel
theorem dL_agrees_74 : decode cL_agrees 74 = .ok (.iconst 0, 1) := by decide +kernel
theorem dL_agrees_75 : decode cL_agrees 75 = .ok (.istore_n 3, 1) := by decide +kernel
theorem dL_agrees_76 : decode cL_agrees 76 = .ok (.iload_n 3, 1) := by decide +kernel
theorem dL_agrees_77 : decode cL_agrees 77 = .ok (.bipush 14, 2) := by decide +kernel
theorem dL_agrees_79 : decode cL_agrees 79 = .ok (.if_icmp .ge 32, 3) := by decide +kernel
theorem dL_agrees_82 : decode cL_agrees 82 = .ok (.iload_n 2, 1) := by decide +kernel
theorem dL_agrees_83 : decode cL_agrees 83 = .ok (.ifCond .eq 28, 3) := by decide +kernel
theorem dL_agrees_86 : decode cL_agrees 86 = .ok (.aload_n 0, 1) := by decide +kernel
theorem dL_agrees_87 : decode cL_agrees 87 = .ok (.iload_n 3, 1) := by decide +kernel
theorem dL_agrees_88 : decode cL_agrees 88 = .ok (.invokestatic 212, 3) := by decide +kernel
theorem dL_agrees_91 : decode cL_agrees 91 = .ok (.aload_n 1, 1) := by decide +kernel
theorem dL_agrees_92 : decode cL_agrees 92 = .ok (.iload_n 3, 1) := by decide +kernel
theorem dL_agrees_93 : decode cL_agrees 93 = .ok (.invokevirtual 225, 3) := by decide +kernel
theorem dL_agrees_96 : decode cL_agrees 96 = .ok (.if_icmp .ne 7, 3) := by decide +kernel
theorem dL_agrees_99 : decode cL_agrees 99 = .ok (.iconst 1, 1) := by decide +kernel
theorem dL_agrees_100 : decode cL_agrees 100 = .ok (.goto 4, 3) := by decide +kernel
theorem dL_agrees_103 : decode cL_agrees 103 = .ok (.iconst 0, 1) := by decide +kernel
theorem dL_agrees_104 : decode cL_agrees 104 = .ok (.istore_n 2, 1) := by decide +kernel
theorem dL_agrees_105 : decode cL_agrees 105 = .ok (.iinc 3 1, 3) := by decide +kernel
theorem dL_agrees_108 : decode cL_agrees 108 = .ok (.goto (-32), 3) := by decide +kernel
theorem dL_agrees_111 : decode cL_agrees 111 = .ok (.iload_n 2, 1) := by decide +kernel
theorem dL_agrees_112 : decode cL_agrees 112 = .ok (.ireturn, 1) := by decide +kernel
set_option maxRecDepth 20000 in
set_option maxRecDepth 20000 in
set_option maxRecDepth 20000 in
set_option maxRecDepth 20000 in
set_option maxRecDepth 20000 in
set_option maxRecDepth 20000 in
set_option maxRecDepth 20000 in
set_option maxRecDepth 20000 in
set_option maxRecDepth 20000 in
set_option maxRecDepth 20000 in
set_option maxRecDepth 20000 in
set_option maxRecDepth 20000 in
set_option maxRecDepth 20000 in
set_option maxRecDepth 20000 in
set_option maxRecDepth 20000 in
set_option maxRecDepth 20000 in
set_option maxRecDepth 20000 in
set_option maxRecDepth 20000 in
set_option maxRecDepth 20000 in
set_option maxRecDepth 20000 in
set_option maxRecDepth 20000 in
set_option maxRecDepth 20000 in
set_option maxRecDepth 20000 in
set_option maxRecDepth 20000 in
set_option maxRecDepth 20000 in
set_option maxRecDepth 20000 in
set_option maxRecDepth 20000 in
set_option maxRecDepth 20000 in
set_option maxRecDepth 20000 in
set_option maxRecDepth 20000 in
set_option maxRecDepth 20000 in
set_option maxRecDepth 20000 in
set_option maxRecDepth 20000 in
set_option maxRecDepth 20000 in
set_option maxRecDepth 20000 in
set_option maxRecDepth 20000 in
set_option maxRecDepth 20000 in
set_option maxRecDepth 20000 in
set_option maxRecDepth 20000 in
set_option maxRecDepth 20000 in
set_option maxRecDepth 20000 in
set_option maxRecDepth 20000 in
set_option maxRecDepth 20000 in
set_option maxRecDepth 20000 in
set_option maxRecDepth 20000 in
set_option maxRecDepth 20000 in
set_option maxRecDepth 20000 in
set_option maxRecDepth 20000 in
set_option maxRecDepth 20000 in
set_option maxRecDepth 20000 in
set_option maxRecDepth 20000 in
set_option maxRecDepth 20000 in
theorem dL_law_0 : decode cL_law 0 = .ok (.iconst 1, 1) := by decide +kernel
theorem dL_law_1 : decode cL_law 1 = .ok (.istore_n 1, 1) := by decide +kernel
theorem dL_law_2 : decode cL_law 2 = .ok (.iconst 0, 1) := by decide +kernel
theorem dL_law_3 : decode cL_law 3 = .ok (.istore_n 2, 1) := by decide +kernel
theorem dL_law_4 : decode cL_law 4 = .ok (.iload_n 2, 1) := by decide +kernel
theorem dL_law_5 : decode cL_law 5 = .ok (.aload_n 0, 1) := by decide +kernel
theorem dL_law_6 : decode cL_law 6 = .ok (.arraylength, 1) := by decide +kernel
theorem dL_law_7 : decode cL_law 7 = .ok (.if_icmp .ge 966, 3) := by decide +kernel
theorem dL_law_10 : decode cL_law 10 = .ok (.iload_n 2, 1) := by decide +kernel
theorem dL_law_11 : decode cL_law 11 = .ok (.iconst 1, 1) := by decide +kernel
theorem dL_law_12 : decode cL_law 12 = .ok (.if_icmp .ge 961, 3) := by decide +kernel
theorem dL_law_15 : decode cL_law 15 = .ok (.iload_n 1, 1) := by decide +kernel
theorem dL_law_16 : decode cL_law 16 = .ok (.ifCond .eq 957, 3) := by decide +kernel
theorem dL_law_19 : decode cL_law 19 = .ok (.new 14, 3) := by decide +kernel
theorem dL_law_22 : decode cL_law 22 = .ok (.dup, 1) := by decide +kernel
theorem dL_law_23 : decode cL_law 23 = .ok (.invokespecial 228, 3) := by decide +kernel
theorem dL_law_26 : decode cL_law 26 = .ok (.astore_n 3, 1) := by decide +kernel
theorem dL_law_27 : decode cL_law 27 = .ok (.bipush 8, 2) := by decide +kernel
theorem dL_law_29 : decode cL_law 29 = .ok (.newarray .int, 2) := by decide +kernel
theorem dL_law_31 : decode cL_law 31 = .ok (.astore 4, 2) := by decide +kernel
theorem dL_law_33 : decode cL_law 33 = .ok (.new 109, 3) := by decide +kernel
theorem dL_law_36 : decode cL_law 36 = .ok (.dup, 1) := by decide +kernel
theorem dL_law_37 : decode cL_law 37 = .ok (.aload_n 0, 1) := by decide +kernel
theorem dL_law_38 : decode cL_law 38 = .ok (.iload_n 2, 1) := by decide +kernel
theorem dL_law_39 : decode cL_law 39 = .ok (.iaload, 1) := by decide +kernel
theorem dL_law_40 : decode cL_law 40 = .ok (.invokespecial 229, 3) := by decide +kernel
theorem dL_law_43 : decode cL_law 43 = .ok (.astore 5, 2) := by decide +kernel
theorem dL_law_45 : decode cL_law 45 = .ok (.aload_n 3, 1) := by decide +kernel
theorem dL_law_46 : decode cL_law 46 = .ok (.new 105, 3) := by decide +kernel
theorem dL_law_49 : decode cL_law 49 = .ok (.dup, 1) := by decide +kernel
theorem dL_law_50 : decode cL_law 50 = .ok (.invokespecial 107, 3) := by decide +kernel
theorem dL_law_53 : decode cL_law 53 = .ok (.iconst 2, 1) := by decide +kernel
theorem dL_law_54 : decode cL_law 54 = .ok (.invokevirtual 128, 3) := by decide +kernel
theorem dL_law_57 : decode cL_law 57 = .ok (.invokestatic 232, 3) := by decide +kernel
theorem dL_law_60 : decode cL_law 60 = .ok (.ifCond .eq 138, 3) := by decide +kernel
theorem dL_law_63 : decode cL_law 63 = .ok (.aload_n 3, 1) := by decide +kernel
theorem dL_law_64 : decode cL_law 64 = .ok (.invokevirtual 236, 3) := by decide +kernel
theorem dL_law_67 : decode cL_law 67 = .ok (.iconst (-1), 1) := by decide +kernel
theorem dL_law_68 : decode cL_law 68 = .ok (.if_icmp .ne 130, 3) := by decide +kernel
theorem dL_law_71 : decode cL_law 71 = .ok (.aload_n 3, 1) := by decide +kernel
theorem dL_law_72 : decode cL_law 72 = .ok (.invokevirtual 239, 3) := by decide +kernel
theorem dL_law_75 : decode cL_law 75 = .ok (.iconst (-1), 1) := by decide +kernel
theorem dL_law_76 : decode cL_law 76 = .ok (.if_icmp .ne 122, 3) := by decide +kernel
theorem dL_law_79 : decode cL_law 79 = .ok (.aload_n 3, 1) := by decide +kernel
theorem dL_law_80 : decode cL_law 80 = .ok (.iconst 1, 1) := by decide +kernel
theorem dL_law_81 : decode cL_law 81 = .ok (.iconst 0, 1) := by decide +kernel
theorem dL_law_82 : decode cL_law 82 = .ok (.invokestatic 242, 3) := by decide +kernel
theorem dL_law_85 : decode cL_law 85 = .ok (.ldc 90, 2) := by decide +kernel
theorem dL_law_87 : decode cL_law 87 = .ok (.if_icmp .ne 111, 3) := by decide +kernel
theorem dL_law_90 : decode cL_law 90 = .ok (.aload_n 3, 1) := by decide +kernel
theorem dL_law_91 : decode cL_law 91 = .ok (.iconst 0, 1) := by decide +kernel
theorem dL_law_92 : decode cL_law 92 = .ok (.iconst 4, 1) := by decide +kernel
theorem dL_law_93 : decode cL_law 93 = .ok (.invokestatic 242, 3) := by decide +kernel
theorem dL_law_96 : decode cL_law 96 = .ok (.ldc 42, 2) := by decide +kernel
theorem dL_law_98 : decode cL_law 98 = .ok (.if_icmp .ne 100, 3) := by decide +kernel
theorem dL_law_101 : decode cL_law 101 = .ok (.aload_n 3, 1) := by decide +kernel
theorem dL_law_102 : decode cL_law 102 = .ok (.iconst 2, 1) := by decide +kernel
theorem dL_law_103 : decode cL_law 103 = .ok (.iconst 0, 1) := by decide +kernel
theorem dL_law_104 : decode cL_law 104 = .ok (.invokestatic 242, 3) := by decide +kernel
theorem dL_law_107 : decode cL_law 107 = .ok (.ldc 52, 2) := by decide +kernel
theorem dL_law_109 : decode cL_law 109 = .ok (.if_icmp .ne 89, 3) := by decide +kernel
theorem dL_law_112 : decode cL_law 112 = .ok (.aload_n 3, 1) := by decide +kernel
theorem dL_law_113 : decode cL_law 113 = .ok (.bipush 10, 2) := by decide +kernel
theorem dL_law_115 : decode cL_law 115 = .ok (.iconst 0, 1) := by decide +kernel
theorem dL_law_116 : decode cL_law 116 = .ok (.iconst 0, 1) := by decide +kernel
theorem dL_law_117 : decode cL_law 117 = .ok (.invokestatic 244, 3) := by decide +kernel
theorem dL_law_120 : decode cL_law 120 = .ok (.ldc 42, 2) := by decide +kernel
theorem dL_law_122 : decode cL_law 122 = .ok (.if_icmp .ne 76, 3) := by decide +kernel
theorem dL_law_125 : decode cL_law 125 = .ok (.aload_n 3, 1) := by decide +kernel
theorem dL_law_126 : decode cL_law 126 = .ok (.iconst 0, 1) := by decide +kernel
theorem dL_law_127 : decode cL_law 127 = .ok (.bipush 26, 2) := by decide +kernel
theorem dL_law_129 : decode cL_law 129 = .ok (.iconst 0, 1) := by decide +kernel
theorem dL_law_130 : decode cL_law 130 = .ok (.invokestatic 244, 3) := by decide +kernel
theorem dL_law_133 : decode cL_law 133 = .ok (.ldc 42, 2) := by decide +kernel
theorem dL_law_135 : decode cL_law 135 = .ok (.if_icmp .ne 63, 3) := by decide +kernel
theorem dL_law_138 : decode cL_law 138 = .ok (.aload_n 3, 1) := by decide +kernel
theorem dL_law_139 : decode cL_law 139 = .ok (.bipush 21, 2) := by decide +kernel
theorem dL_law_141 : decode cL_law 141 = .ok (.invokestatic 247, 3) := by decide +kernel
theorem dL_law_144 : decode cL_law 144 = .ok (.ldc 42, 2) := by decide +kernel
theorem dL_law_146 : decode cL_law 146 = .ok (.if_icmp .ne 52, 3) := by decide +kernel
theorem dL_law_149 : decode cL_law 149 = .ok (.aload_n 3, 1) := by decide +kernel
theorem dL_law_150 : decode cL_law 150 = .ok (.bipush 51, 2) := by decide +kernel
theorem dL_law_152 : decode cL_law 152 = .ok (.invokestatic 249, 3) := by decide +kernel
theorem dL_law_155 : decode cL_law 155 = .ok (.ldc 42, 2) := by decide +kernel
theorem dL_law_157 : decode cL_law 157 = .ok (.if_icmp .ne 41, 3) := by decide +kernel
theorem dL_law_160 : decode cL_law 160 = .ok (.aload_n 3, 1) := by decide +kernel
theorem dL_law_161 : decode cL_law 161 = .ok (.iconst 0, 1) := by decide +kernel
theorem dL_law_162 : decode cL_law 162 = .ok (.iconst 0, 1) := by decide +kernel
theorem dL_law_163 : decode cL_law 163 = .ok (.iconst 5, 1) := by decide +kernel
theorem dL_law_164 : decode cL_law 164 = .ok (.invokestatic 244, 3) := by decide +kernel
theorem dL_law_167 : decode cL_law 167 = .ok (.ifCond .ne 31, 3) := by decide +kernel
theorem dL_law_170 : decode cL_law 170 = .ok (.aload_n 3, 1) := by decide +kernel
theorem dL_law_171 : decode cL_law 171 = .ok (.iconst 1, 1) := by decide +kernel
theorem dL_law_172 : decode cL_law 172 = .ok (.invokestatic 247, 3) := by decide +kernel
theorem dL_law_175 : decode cL_law 175 = .ok (.iconst 3, 1) := by decide +kernel
theorem dL_law_176 : decode cL_law 176 = .ok (.if_icmp .ne 22, 3) := by decide +kernel
theorem dL_law_179 : decode cL_law 179 = .ok (.aload_n 3, 1) := by decide +kernel
theorem dL_law_180 : decode cL_law 180 = .ok (.invokevirtual 239, 3) := by decide +kernel
theorem dL_law_183 : decode cL_law 183 = .ok (.iconst 1, 1) := by decide +kernel
theorem dL_law_184 : decode cL_law 184 = .ok (.if_icmp .ne 14, 3) := by decide +kernel
theorem dL_law_187 : decode cL_law 187 = .ok (.aload_n 3, 1) := by decide +kernel
theorem dL_law_188 : decode cL_law 188 = .ok (.invokevirtual 239, 3) := by decide +kernel
theorem dL_law_191 : decode cL_law 191 = .ok (.ifCond .ne 7, 3) := by decide +kernel
theorem dL_law_194 : decode cL_law 194 = .ok (.iconst 1, 1) := by decide +kernel
theorem dL_law_195 : decode cL_law 195 = .ok (.goto 4, 3) := by decide +kernel
theorem dL_law_198 : decode cL_law 198 = .ok (.iconst 0, 1) := by decide +kernel
theorem dL_law_199 : decode cL_law 199 = .ok (.istore_n 1, 1) := by decide +kernel
theorem dL_law_200 : decode cL_law 200 = .ok (.aload_n 3, 1) := by decide +kernel
theorem dL_law_201 : decode cL_law 201 = .ok (.aload 4, 2) := by decide +kernel
theorem dL_law_203 : decode cL_law 203 = .ok (.aload 5, 2) := by decide +kernel
theorem dL_law_205 : decode cL_law 205 = .ok (.invokestatic 251, 3) := by decide +kernel
theorem dL_law_208 : decode cL_law 208 = .ok (.astore 6, 2) := by decide +kernel
theorem dL_law_210 : decode cL_law 210 = .ok (.aload 6, 2) := by decide +kernel
theorem dL_law_212 : decode cL_law 212 = .ok (.ifnonnull 5, 3) := by decide +kernel
theorem dL_law_215 : decode cL_law 215 = .ok (.iconst 0, 1) := by decide +kernel
theorem dL_law_216 : decode cL_law 216 = .ok (.ireturn, 1) := by decide +kernel
theorem dL_law_217 : decode cL_law 217 = .ok (.iload_n 1, 1) := by decide +kernel
theorem dL_law_218 : decode cL_law 218 = .ok (.ifCond .eq 16, 3) := by decide +kernel
theorem dL_law_221 : decode cL_law 221 = .ok (.aload_n 3, 1) := by decide +kernel
theorem dL_law_222 : decode cL_law 222 = .ok (.aload 6, 2) := by decide +kernel
theorem dL_law_224 : decode cL_law 224 = .ok (.invokestatic 232, 3) := by decide +kernel
theorem dL_law_227 : decode cL_law 227 = .ok (.ifCond .eq 7, 3) := by decide +kernel
theorem dL_law_230 : decode cL_law 230 = .ok (.iconst 1, 1) := by decide +kernel
theorem dL_law_231 : decode cL_law 231 = .ok (.goto 4, 3) := by decide +kernel
theorem dL_law_234 : decode cL_law 234 = .ok (.iconst 0, 1) := by decide +kernel
theorem dL_law_235 : decode cL_law 235 = .ok (.istore_n 1, 1) := by decide +kernel
theorem dL_law_236 : decode cL_law 236 = .ok (.bipush 9, 2) := by decide +kernel
theorem dL_law_238 : decode cL_law 238 = .ok (.anewarray 105, 3) := by decide +kernel
theorem dL_law_241 : decode cL_law 241 = .ok (.astore 7, 2) := by decide +kernel
theorem dL_law_243 : decode cL_law 243 = .ok (.iconst 0, 1) := by decide +kernel
theorem dL_law_244 : decode cL_law 244 = .ok (.istore 8, 2) := by decide +kernel
theorem dL_law_246 : decode cL_law 246 = .ok (.iconst 0, 1) := by decide +kernel
theorem dL_law_247 : decode cL_law 247 = .ok (.istore 9, 2) := by decide +kernel
theorem dL_law_249 : decode cL_law 249 = .ok (.iload 9, 2) := by decide +kernel
theorem dL_law_251 : decode cL_law 251 = .ok (.bipush 18, 2) := by decide +kernel
theorem dL_law_253 : decode cL_law 253 = .ok (.if_icmp .ge 557, 3) := by decide +kernel
theorem dL_law_256 : decode cL_law 256 = .ok (.iload_n 1, 1) := by decide +kernel
theorem dL_law_257 : decode cL_law 257 = .ok (.ifCond .eq 553, 3) := by decide +kernel
theorem dL_law_260 : decode cL_law 260 = .ok (.aload 6, 2) := by decide +kernel
theorem dL_law_262 : decode cL_law 262 = .ok (.invokevirtual 255, 3) := by decide +kernel
theorem dL_law_265 : decode cL_law 265 = .ok (.astore 10, 2) := by decide +kernel
theorem dL_law_267 : decode cL_law 267 = .ok (.iconst 1, 1) := by decide +kernel
theorem dL_law_268 : decode cL_law 268 = .ok (.istore 11, 2) := by decide +kernel
theorem dL_law_270 : decode cL_law 270 = .ok (.aload 5, 2) := by decide +kernel
theorem dL_law_272 : decode cL_law 272 = .ok (.bipush 6, 2) := by decide +kernel
theorem dL_law_274 : decode cL_law 274 = .ok (.invokevirtual 108, 3) := by decide +kernel
theorem dL_law_277 : decode cL_law 277 = .ok (.tableswitch 393 0 4 #[35, 35, 99, 267, 267], 35) := by decide +kernel
theorem dL_law_312 : decode cL_law 312 = .ok (.iconst 1, 1) := by decide +kernel
theorem dL_law_313 : decode cL_law 313 = .ok (.aload 5, 2) := by decide +kernel
theorem dL_law_315 : decode cL_law 315 = .ok (.iconst 4, 1) := by decide +kernel
theorem dL_law_316 : decode cL_law 316 = .ok (.invokevirtual 108, 3) := by decide +kernel
theorem dL_law_319 : decode cL_law 319 = .ok (.iadd, 1) := by decide +kernel
theorem dL_law_320 : decode cL_law 320 = .ok (.istore 12, 2) := by decide +kernel
theorem dL_law_322 : decode cL_law 322 = .ok (.aload 6, 2) := by decide +kernel
theorem dL_law_324 : decode cL_law 324 = .ok (.invokevirtual 259, 3) := by decide +kernel
theorem dL_law_327 : decode cL_law 327 = .ok (.istore 13, 2) := by decide +kernel
theorem dL_law_329 : decode cL_law 329 = .ok (.iconst 0, 1) := by decide +kernel
theorem dL_law_330 : decode cL_law 330 = .ok (.istore 14, 2) := by decide +kernel
theorem dL_law_332 : decode cL_law 332 = .ok (.iload 14, 2) := by decide +kernel
theorem dL_law_334 : decode cL_law 334 = .ok (.iload 12, 2) := by decide +kernel
theorem dL_law_336 : decode cL_law 336 = .ok (.if_icmp .ge 14, 3) := by decide +kernel
theorem dL_law_339 : decode cL_law 339 = .ok (.aload 6, 2) := by decide +kernel
theorem dL_law_341 : decode cL_law 341 = .ok (.invokevirtual 262, 3) := by decide +kernel
theorem dL_law_344 : decode cL_law 344 = .ok (.iinc 14 1, 3) := by decide +kernel
theorem dL_law_347 : decode cL_law 347 = .ok (.goto (-15), 3) := by decide +kernel
theorem dL_law_350 : decode cL_law 350 = .ok (.aload_n 3, 1) := by decide +kernel
theorem dL_law_351 : decode cL_law 351 = .ok (.iload 12, 2) := by decide +kernel
theorem dL_law_353 : decode cL_law 353 = .ok (.invokestatic 249, 3) := by decide +kernel
theorem dL_law_356 : decode cL_law 356 = .ok (.aload 6, 2) := by decide +kernel
theorem dL_law_358 : decode cL_law 358 = .ok (.invokevirtual 259, 3) := by decide +kernel
theorem dL_law_361 : decode cL_law 361 = .ok (.iload 13, 2) := by decide +kernel
theorem dL_law_363 : decode cL_law 363 = .ok (.isub, 1) := by decide +kernel
theorem dL_law_364 : decode cL_law 364 = .ok (.if_icmp .ne 7, 3) := by decide +kernel
theorem dL_law_367 : decode cL_law 367 = .ok (.iconst 1, 1) := by decide +kernel
theorem dL_law_368 : decode cL_law 368 = .ok (.goto 4, 3) := by decide +kernel
theorem dL_law_371 : decode cL_law 371 = .ok (.iconst 0, 1) := by decide +kernel
theorem dL_law_372 : decode cL_law 372 = .ok (.istore_n 1, 1) := by decide +kernel
theorem dL_law_373 : decode cL_law 373 = .ok (.goto 371, 3) := by decide +kernel
theorem dL_law_376 : decode cL_law 376 = .ok (.aload 5, 2) := by decide +kernel
theorem dL_law_378 : decode cL_law 378 = .ok (.aload 6, 2) := by decide +kernel
theorem dL_law_380 : decode cL_law 380 = .ok (.getfield 148, 3) := by decide +kernel
theorem dL_law_383 : decode cL_law 383 = .ok (.arraylength, 1) := by decide +kernel
theorem dL_law_384 : decode cL_law 384 = .ok (.iconst 1, 1) := by decide +kernel
theorem dL_law_385 : decode cL_law 385 = .ok (.iadd, 1) := by decide +kernel
theorem dL_law_386 : decode cL_law 386 = .ok (.invokevirtual 108, 3) := by decide +kernel
theorem dL_law_389 : decode cL_law 389 = .ok (.istore 14, 2) := by decide +kernel
theorem dL_law_391 : decode cL_law 391 = .ok (.aload 5, 2) := by decide +kernel
theorem dL_law_393 : decode cL_law 393 = .ok (.aload 6, 2) := by decide +kernel
theorem dL_law_395 : decode cL_law 395 = .ok (.getfield 117, 3) := by decide +kernel
theorem dL_law_398 : decode cL_law 398 = .ok (.iconst 2, 1) := by decide +kernel
theorem dL_law_399 : decode cL_law 399 = .ok (.iadd, 1) := by decide +kernel
theorem dL_law_400 : decode cL_law 400 = .ok (.invokevirtual 108, 3) := by decide +kernel
theorem dL_law_403 : decode cL_law 403 = .ok (.istore 15, 2) := by decide +kernel
theorem dL_law_405 : decode cL_law 405 = .ok (.iload 14, 2) := by decide +kernel
theorem dL_law_407 : decode cL_law 407 = .ok (.aload 6, 2) := by decide +kernel
theorem dL_law_409 : decode cL_law 409 = .ok (.getfield 148, 3) := by decide +kernel
theorem dL_law_412 : decode cL_law 412 = .ok (.arraylength, 1) := by decide +kernel
theorem dL_law_413 : decode cL_law 413 = .ok (.if_icmp .ge 7, 3) := by decide +kernel
theorem dL_law_416 : decode cL_law 416 = .ok (.iconst 1, 1) := by decide +kernel
theorem dL_law_417 : decode cL_law 417 = .ok (.goto 4, 3) := by decide +kernel
theorem dL_law_420 : decode cL_law 420 = .ok (.iconst 0, 1) := by decide +kernel
theorem dL_law_421 : decode cL_law 421 = .ok (.istore 16, 2) := by decide +kernel
theorem dL_law_423 : decode cL_law 423 = .ok (.iload 14, 2) := by decide +kernel
theorem dL_law_425 : decode cL_law 425 = .ok (.iconst 1, 1) := by decide +kernel
theorem dL_law_426 : decode cL_law 426 = .ok (.iadd, 1) := by decide +kernel
theorem dL_law_427 : decode cL_law 427 = .ok (.aload 6, 2) := by decide +kernel
theorem dL_law_429 : decode cL_law 429 = .ok (.getfield 148, 3) := by decide +kernel
theorem dL_law_432 : decode cL_law 432 = .ok (.arraylength, 1) := by decide +kernel
theorem dL_law_433 : decode cL_law 433 = .ok (.if_icmp .ge 17, 3) := by decide +kernel
theorem dL_law_436 : decode cL_law 436 = .ok (.iload 15, 2) := by decide +kernel
theorem dL_law_438 : decode cL_law 438 = .ok (.aload 6, 2) := by decide +kernel
theorem dL_law_440 : decode cL_law 440 = .ok (.getfield 117, 3) := by decide +kernel
theorem dL_law_443 : decode cL_law 443 = .ok (.if_icmp .gt 7, 3) := by decide +kernel
theorem dL_law_446 : decode cL_law 446 = .ok (.iconst 1, 1) := by decide +kernel
theorem dL_law_447 : decode cL_law 447 = .ok (.goto 4, 3) := by decide +kernel
theorem dL_law_450 : decode cL_law 450 = .ok (.iconst 0, 1) := by decide +kernel
theorem dL_law_451 : decode cL_law 451 = .ok (.istore 11, 2) := by decide +kernel
theorem dL_law_453 : decode cL_law 453 = .ok (.iload 16, 2) := by decide +kernel
theorem dL_law_455 : decode cL_law 455 = .ok (.ifCond .eq 14, 3) := by decide +kernel
theorem dL_law_458 : decode cL_law 458 = .ok (.aload 6, 2) := by decide +kernel
theorem dL_law_460 : decode cL_law 460 = .ok (.getfield 265, 3) := by decide +kernel
theorem dL_law_463 : decode cL_law 463 = .ok (.iload 14, 2) := by decide +kernel
theorem dL_law_465 : decode cL_law 465 = .ok (.iaload, 1) := by decide +kernel
theorem dL_law_466 : decode cL_law 466 = .ok (.goto 4, 3) := by decide +kernel
theorem dL_law_469 : decode cL_law 469 = .ok (.iconst 0, 1) := by decide +kernel
theorem dL_law_470 : decode cL_law 470 = .ok (.istore 17, 2) := by decide +kernel
theorem dL_law_472 : decode cL_law 472 = .ok (.iload 11, 2) := by decide +kernel
theorem dL_law_474 : decode cL_law 474 = .ok (.ifCond .eq 13, 3) := by decide +kernel
theorem dL_law_477 : decode cL_law 477 = .ok (.aload 6, 2) := by decide +kernel
theorem dL_law_479 : decode cL_law 479 = .ok (.getfield 265, 3) := by decide +kernel
theorem dL_law_482 : decode cL_law 482 = .ok (.iload 14, 2) := by decide +kernel
theorem dL_law_484 : decode cL_law 484 = .ok (.iload 15, 2) := by decide +kernel
theorem dL_law_486 : decode cL_law 486 = .ok (.iastore, 1) := by decide +kernel
theorem dL_law_487 : decode cL_law 487 = .ok (.aload_n 3, 1) := by decide +kernel
theorem dL_law_488 : decode cL_law 488 = .ok (.iload 14, 2) := by decide +kernel
theorem dL_law_490 : decode cL_law 490 = .ok (.iload 15, 2) := by decide +kernel
theorem dL_law_492 : decode cL_law 492 = .ok (.invokestatic 242, 3) := by decide +kernel
theorem dL_law_495 : decode cL_law 495 = .ok (.iload 11, 2) := by decide +kernel
theorem dL_law_497 : decode cL_law 497 = .ok (.ifCond .eq 8, 3) := by decide +kernel
theorem dL_law_500 : decode cL_law 500 = .ok (.iload 17, 2) := by decide +kernel
theorem dL_law_502 : decode cL_law 502 = .ok (.goto 30, 3) := by decide +kernel
theorem dL_law_505 : decode cL_law 505 = .ok (.iload 16, 2) := by decide +kernel
theorem dL_law_507 : decode cL_law 507 = .ok (.ifCond .ne 8, 3) := by decide +kernel
theorem dL_law_510 : decode cL_law 510 = .ok (.ldc 52, 2) := by decide +kernel
theorem dL_law_512 : decode cL_law 512 = .ok (.goto 20, 3) := by decide +kernel
theorem dL_law_515 : decode cL_law 515 = .ok (.iload 15, 2) := by decide +kernel
theorem dL_law_517 : decode cL_law 517 = .ok (.aload 6, 2) := by decide +kernel
theorem dL_law_519 : decode cL_law 519 = .ok (.getfield 117, 3) := by decide +kernel
theorem dL_law_522 : decode cL_law 522 = .ok (.if_icmp .le 8, 3) := by decide +kernel
theorem dL_law_525 : decode cL_law 525 = .ok (.ldc 42, 2) := by decide +kernel
theorem dL_law_527 : decode cL_law 527 = .ok (.goto 5, 3) := by decide +kernel
theorem dL_law_530 : decode cL_law 530 = .ok (.ldc 90, 2) := by decide +kernel
theorem dL_law_532 : decode cL_law 532 = .ok (.if_icmp .ne 7, 3) := by decide +kernel
theorem dL_law_535 : decode cL_law 535 = .ok (.iconst 1, 1) := by decide +kernel
theorem dL_law_536 : decode cL_law 536 = .ok (.goto 4, 3) := by decide +kernel
theorem dL_law_539 : decode cL_law 539 = .ok (.iconst 0, 1) := by decide +kernel
theorem dL_law_540 : decode cL_law 540 = .ok (.istore_n 1, 1) := by decide +kernel
theorem dL_law_541 : decode cL_law 541 = .ok (.goto 203, 3) := by decide +kernel
theorem dL_law_544 : decode cL_law 544 = .ok (.aload 5, 2) := by decide +kernel
theorem dL_law_546 : decode cL_law 546 = .ok (.bipush 11, 2) := by decide +kernel
theorem dL_law_548 : decode cL_law 548 = .ok (.invokevirtual 108, 3) := by decide +kernel
theorem dL_law_551 : decode cL_law 551 = .ok (.istore 18, 2) := by decide +kernel
theorem dL_law_553 : decode cL_law 553 = .ok (.aload 5, 2) := by decide +kernel
theorem dL_law_555 : decode cL_law 555 = .ok (.iconst 5, 1) := by decide +kernel
theorem dL_law_556 : decode cL_law 556 = .ok (.invokevirtual 108, 3) := by decide +kernel
theorem dL_law_559 : decode cL_law 559 = .ok (.istore 19, 2) := by decide +kernel
theorem dL_law_561 : decode cL_law 561 = .ok (.aload 5, 2) := by decide +kernel
theorem dL_law_563 : decode cL_law 563 = .ok (.bipush 40, 2) := by decide +kernel
theorem dL_law_565 : decode cL_law 565 = .ok (.invokevirtual 108, 3) := by decide +kernel
theorem dL_law_568 : decode cL_law 568 = .ok (.istore 20, 2) := by decide +kernel
theorem dL_law_570 : decode cL_law 570 = .ok (.iload 18, 2) := by decide +kernel
theorem dL_law_572 : decode cL_law 572 = .ok (.bipush 10, 2) := by decide +kernel
theorem dL_law_574 : decode cL_law 574 = .ok (.if_icmp .ge 18, 3) := by decide +kernel
theorem dL_law_577 : decode cL_law 577 = .ok (.aload 6, 2) := by decide +kernel
theorem dL_law_579 : decode cL_law 579 = .ok (.getfield 219, 3) := by decide +kernel
theorem dL_law_582 : decode cL_law 582 = .ok (.arraylength, 1) := by decide +kernel
theorem dL_law_583 : decode cL_law 583 = .ok (.bipush 20, 2) := by decide +kernel
theorem dL_law_585 : decode cL_law 585 = .ok (.if_icmp .ge 7, 3) := by decide +kernel
theorem dL_law_588 : decode cL_law 588 = .ok (.iconst 1, 1) := by decide +kernel
theorem dL_law_589 : decode cL_law 589 = .ok (.goto 4, 3) := by decide +kernel
theorem dL_law_592 : decode cL_law 592 = .ok (.iconst 0, 1) := by decide +kernel
theorem dL_law_593 : decode cL_law 593 = .ok (.istore 11, 2) := by decide +kernel
theorem dL_law_595 : decode cL_law 595 = .ok (.iload 11, 2) := by decide +kernel
theorem dL_law_597 : decode cL_law 597 = .ok (.ifCond .eq 21, 3) := by decide +kernel
theorem dL_law_600 : decode cL_law 600 = .ok (.aload 6, 2) := by decide +kernel
theorem dL_law_602 : decode cL_law 602 = .ok (.new 166, 3) := by decide +kernel
theorem dL_law_605 : decode cL_law 605 = .ok (.dup, 1) := by decide +kernel
theorem dL_law_606 : decode cL_law 606 = .ok (.iload 18, 2) := by decide +kernel
theorem dL_law_608 : decode cL_law 608 = .ok (.iload 19, 2) := by decide +kernel
theorem dL_law_610 : decode cL_law 610 = .ok (.iload 20, 2) := by decide +kernel
theorem dL_law_612 : decode cL_law 612 = .ok (.invokespecial 168, 3) := by decide +kernel
theorem dL_law_615 : decode cL_law 615 = .ok (.invokevirtual 171, 3) := by decide +kernel
theorem dL_law_618 : decode cL_law 618 = .ok (.aload_n 3, 1) := by decide +kernel
theorem dL_law_619 : decode cL_law 619 = .ok (.iload 18, 2) := by decide +kernel
theorem dL_law_621 : decode cL_law 621 = .ok (.iload 19, 2) := by decide +kernel
theorem dL_law_623 : decode cL_law 623 = .ok (.iload 20, 2) := by decide +kernel
theorem dL_law_625 : decode cL_law 625 = .ok (.invokestatic 244, 3) := by decide +kernel
theorem dL_law_628 : decode cL_law 628 = .ok (.iload 11, 2) := by decide +kernel
theorem dL_law_630 : decode cL_law 630 = .ok (.ifCond .eq 14, 3) := by decide +kernel
theorem dL_law_633 : decode cL_law 633 = .ok (.aload 6, 2) := by decide +kernel
theorem dL_law_635 : decode cL_law 635 = .ok (.getfield 219, 3) := by decide +kernel
theorem dL_law_638 : decode cL_law 638 = .ok (.arraylength, 1) := by decide +kernel
theorem dL_law_639 : decode cL_law 639 = .ok (.iconst 1, 1) := by decide +kernel
theorem dL_law_640 : decode cL_law 640 = .ok (.isub, 1) := by decide +kernel
theorem dL_law_641 : decode cL_law 641 = .ok (.goto 17, 3) := by decide +kernel
theorem dL_law_644 : decode cL_law 644 = .ok (.iload 18, 2) := by decide +kernel
theorem dL_law_646 : decode cL_law 646 = .ok (.bipush 9, 2) := by decide +kernel
theorem dL_law_648 : decode cL_law 648 = .ok (.if_icmp .le 8, 3) := by decide +kernel
theorem dL_law_651 : decode cL_law 651 = .ok (.ldc 42, 2) := by decide +kernel
theorem dL_law_653 : decode cL_law 653 = .ok (.goto 5, 3) := by decide +kernel
theorem dL_law_656 : decode cL_law 656 = .ok (.ldc 90, 2) := by decide +kernel
theorem dL_law_658 : decode cL_law 658 = .ok (.if_icmp .ne 7, 3) := by decide +kernel
theorem dL_law_661 : decode cL_law 661 = .ok (.iconst 1, 1) := by decide +kernel
theorem dL_law_662 : decode cL_law 662 = .ok (.goto 4, 3) := by decide +kernel
theorem dL_law_665 : decode cL_law 665 = .ok (.iconst 0, 1) := by decide +kernel
theorem dL_law_666 : decode cL_law 666 = .ok (.istore_n 1, 1) := by decide +kernel
theorem dL_law_667 : decode cL_law 667 = .ok (.goto 77, 3) := by decide +kernel
theorem dL_law_670 : decode cL_law 670 = .ok (.aload 5, 2) := by decide +kernel
theorem dL_law_672 : decode cL_law 672 = .ok (.bipush 22, 2) := by decide +kernel
theorem dL_law_674 : decode cL_law 674 = .ok (.invokevirtual 108, 3) := by decide +kernel
theorem dL_law_677 : decode cL_law 677 = .ok (.istore 21, 2) := by decide +kernel
theorem dL_law_679 : decode cL_law 679 = .ok (.iload 21, 2) := by decide +kernel
theorem dL_law_681 : decode cL_law 681 = .ok (.ifCond .le 14, 3) := by decide +kernel
theorem dL_law_684 : decode cL_law 684 = .ok (.iload 21, 2) := by decide +kernel
theorem dL_law_686 : decode cL_law 686 = .ok (.bipush 21, 2) := by decide +kernel
theorem dL_law_688 : decode cL_law 688 = .ok (.if_icmp .ge 7, 3) := by decide +kernel
theorem dL_law_691 : decode cL_law 691 = .ok (.iconst 1, 1) := by decide +kernel
theorem dL_law_692 : decode cL_law 692 = .ok (.goto 4, 3) := by decide +kernel
theorem dL_law_695 : decode cL_law 695 = .ok (.iconst 0, 1) := by decide +kernel
theorem dL_law_696 : decode cL_law 696 = .ok (.istore 11, 2) := by decide +kernel
theorem dL_law_698 : decode cL_law 698 = .ok (.aload 6, 2) := by decide +kernel
theorem dL_law_700 : decode cL_law 700 = .ok (.getfield 161, 3) := by decide +kernel
theorem dL_law_703 : decode cL_law 703 = .ok (.istore 22, 2) := by decide +kernel
theorem dL_law_705 : decode cL_law 705 = .ok (.iload 11, 2) := by decide +kernel
theorem dL_law_707 : decode cL_law 707 = .ok (.ifCond .eq 10, 3) := by decide +kernel
theorem dL_law_710 : decode cL_law 710 = .ok (.aload 6, 2) := by decide +kernel
theorem dL_law_712 : decode cL_law 712 = .ok (.iload 21, 2) := by decide +kernel
theorem dL_law_714 : decode cL_law 714 = .ok (.putfield 161, 3) := by decide +kernel
theorem dL_law_717 : decode cL_law 717 = .ok (.aload_n 3, 1) := by decide +kernel
theorem dL_law_718 : decode cL_law 718 = .ok (.iload 21, 2) := by decide +kernel
theorem dL_law_720 : decode cL_law 720 = .ok (.invokestatic 247, 3) := by decide +kernel
theorem dL_law_723 : decode cL_law 723 = .ok (.iload 11, 2) := by decide +kernel
theorem dL_law_725 : decode cL_law 725 = .ok (.ifCond .eq 8, 3) := by decide +kernel
theorem dL_law_728 : decode cL_law 728 = .ok (.iload 22, 2) := by decide +kernel
theorem dL_law_730 : decode cL_law 730 = .ok (.goto 5, 3) := by decide +kernel
theorem dL_law_733 : decode cL_law 733 = .ok (.ldc 42, 2) := by decide +kernel
theorem dL_law_735 : decode cL_law 735 = .ok (.if_icmp .ne 7, 3) := by decide +kernel
theorem dL_law_738 : decode cL_law 738 = .ok (.iconst 1, 1) := by decide +kernel
theorem dL_law_739 : decode cL_law 739 = .ok (.goto 4, 3) := by decide +kernel
theorem dL_law_742 : decode cL_law 742 = .ok (.iconst 0, 1) := by decide +kernel
theorem dL_law_743 : decode cL_law 743 = .ok (.istore_n 1, 1) := by decide +kernel
theorem dL_law_744 : decode cL_law 744 = .ok (.iload 11, 2) := by decide +kernel
theorem dL_law_746 : decode cL_law 746 = .ok (.ifCond .eq 39, 3) := by decide +kernel
theorem dL_law_749 : decode cL_law 749 = .ok (.bipush 8, 2) := by decide +kernel
theorem dL_law_751 : decode cL_law 751 = .ok (.istore 12, 2) := by decide +kernel
theorem dL_law_753 : decode cL_law 753 = .ok (.iload 12, 2) := by decide +kernel
theorem dL_law_755 : decode cL_law 755 = .ok (.ifCond .le 21, 3) := by decide +kernel
theorem dL_law_758 : decode cL_law 758 = .ok (.aload 7, 2) := by decide +kernel
theorem dL_law_760 : decode cL_law 760 = .ok (.iload 12, 2) := by decide +kernel
theorem dL_law_762 : decode cL_law 762 = .ok (.aload 7, 2) := by decide +kernel
theorem dL_law_764 : decode cL_law 764 = .ok (.iload 12, 2) := by decide +kernel
theorem dL_law_766 : decode cL_law 766 = .ok (.iconst 1, 1) := by decide +kernel
theorem dL_law_767 : decode cL_law 767 = .ok (.isub, 1) := by decide +kernel
theorem dL_law_768 : decode cL_law 768 = .ok (.aaload, 1) := by decide +kernel
theorem dL_law_769 : decode cL_law 769 = .ok (.aastore, 1) := by decide +kernel
theorem dL_law_770 : decode cL_law 770 = .ok (.iinc 12 (-1), 3) := by decide +kernel
theorem dL_law_773 : decode cL_law 773 = .ok (.goto (-20), 3) := by decide +kernel
theorem dL_law_776 : decode cL_law 776 = .ok (.aload 7, 2) := by decide +kernel
theorem dL_law_778 : decode cL_law 778 = .ok (.iconst 0, 1) := by decide +kernel
theorem dL_law_779 : decode cL_law 779 = .ok (.aload 10, 2) := by decide +kernel
theorem dL_law_781 : decode cL_law 781 = .ok (.aastore, 1) := by decide +kernel
theorem dL_law_782 : decode cL_law 782 = .ok (.iinc 8 1, 3) := by decide +kernel
theorem dL_law_785 : decode cL_law 785 = .ok (.iload_n 1, 1) := by decide +kernel
theorem dL_law_786 : decode cL_law 786 = .ok (.ifCond .eq 16, 3) := by decide +kernel
theorem dL_law_789 : decode cL_law 789 = .ok (.aload_n 3, 1) := by decide +kernel
theorem dL_law_790 : decode cL_law 790 = .ok (.aload 6, 2) := by decide +kernel
theorem dL_law_792 : decode cL_law 792 = .ok (.invokestatic 232, 3) := by decide +kernel
theorem dL_law_795 : decode cL_law 795 = .ok (.ifCond .eq 7, 3) := by decide +kernel
theorem dL_law_798 : decode cL_law 798 = .ok (.iconst 1, 1) := by decide +kernel
theorem dL_law_799 : decode cL_law 799 = .ok (.goto 4, 3) := by decide +kernel
theorem dL_law_802 : decode cL_law 802 = .ok (.iconst 0, 1) := by decide +kernel
theorem dL_law_803 : decode cL_law 803 = .ok (.istore_n 1, 1) := by decide +kernel
theorem dL_law_804 : decode cL_law 804 = .ok (.iinc 9 1, 3) := by decide +kernel
theorem dL_law_807 : decode cL_law 807 = .ok (.goto (-558), 3) := by decide +kernel
theorem dL_law_810 : decode cL_law 810 = .ok (.iconst 0, 1) := by decide +kernel
theorem dL_law_811 : decode cL_law 811 = .ok (.istore 9, 2) := by decide +kernel
theorem dL_law_813 : decode cL_law 813 = .ok (.iload 9, 2) := by decide +kernel
theorem dL_law_815 : decode cL_law 815 = .ok (.bipush 8, 2) := by decide +kernel
theorem dL_law_817 : decode cL_law 817 = .ok (.if_icmp .ge 45, 3) := by decide +kernel
theorem dL_law_820 : decode cL_law 820 = .ok (.iload 9, 2) := by decide +kernel
theorem dL_law_822 : decode cL_law 822 = .ok (.iload 8, 2) := by decide +kernel
theorem dL_law_824 : decode cL_law 824 = .ok (.if_icmp .ge 38, 3) := by decide +kernel
theorem dL_law_827 : decode cL_law 827 = .ok (.iload_n 1, 1) := by decide +kernel
theorem dL_law_828 : decode cL_law 828 = .ok (.ifCond .eq 34, 3) := by decide +kernel
theorem dL_law_831 : decode cL_law 831 = .ok (.aload_n 3, 1) := by decide +kernel
theorem dL_law_832 : decode cL_law 832 = .ok (.invokevirtual 239, 3) := by decide +kernel
theorem dL_law_835 : decode cL_law 835 = .ok (.ifCond .lt 19, 3) := by decide +kernel
theorem dL_law_838 : decode cL_law 838 = .ok (.aload_n 3, 1) := by decide +kernel
theorem dL_law_839 : decode cL_law 839 = .ok (.aload 7, 2) := by decide +kernel
theorem dL_law_841 : decode cL_law 841 = .ok (.iload 9, 2) := by decide +kernel
theorem dL_law_843 : decode cL_law 843 = .ok (.aaload, 1) := by decide +kernel
theorem dL_law_844 : decode cL_law 844 = .ok (.invokestatic 232, 3) := by decide +kernel
theorem dL_law_847 : decode cL_law 847 = .ok (.ifCond .eq 7, 3) := by decide +kernel
theorem dL_law_850 : decode cL_law 850 = .ok (.iconst 1, 1) := by decide +kernel
theorem dL_law_851 : decode cL_law 851 = .ok (.goto 4, 3) := by decide +kernel
theorem dL_law_854 : decode cL_law 854 = .ok (.iconst 0, 1) := by decide +kernel
theorem dL_law_855 : decode cL_law 855 = .ok (.istore_n 1, 1) := by decide +kernel
theorem dL_law_856 : decode cL_law 856 = .ok (.iinc 9 1, 3) := by decide +kernel
theorem dL_law_859 : decode cL_law 859 = .ok (.goto (-46), 3) := by decide +kernel
theorem dL_law_862 : decode cL_law 862 = .ok (.iload_n 1, 1) := by decide +kernel
theorem dL_law_863 : decode cL_law 863 = .ok (.ifCond .eq 102, 3) := by decide +kernel
theorem dL_law_866 : decode cL_law 866 = .ok (.aload_n 3, 1) := by decide +kernel
theorem dL_law_867 : decode cL_law 867 = .ok (.sipush 801, 3) := by decide +kernel
theorem dL_law_870 : decode cL_law 870 = .ok (.invokestatic 19, 3) := by decide +kernel
theorem dL_law_873 : decode cL_law 873 = .ok (.ldc 42, 2) := by decide +kernel
theorem dL_law_875 : decode cL_law 875 = .ok (.if_icmp .ne 90, 3) := by decide +kernel
theorem dL_law_878 : decode cL_law 878 = .ok (.aload_n 3, 1) := by decide +kernel
theorem dL_law_879 : decode cL_law 879 = .ok (.iconst 0, 1) := by decide +kernel
theorem dL_law_880 : decode cL_law 880 = .ok (.iconst (-1), 1) := by decide +kernel
theorem dL_law_881 : decode cL_law 881 = .ok (.iconst 0, 1) := by decide +kernel
theorem dL_law_882 : decode cL_law 882 = .ok (.invokestatic 269, 3) := by decide +kernel
theorem dL_law_885 : decode cL_law 885 = .ok (.ldc 52, 2) := by decide +kernel
theorem dL_law_887 : decode cL_law 887 = .ok (.if_icmp .ne 78, 3) := by decide +kernel
theorem dL_law_890 : decode cL_law 890 = .ok (.aload_n 3, 1) := by decide +kernel
theorem dL_law_891 : decode cL_law 891 = .ok (.iconst 4, 1) := by decide +kernel
theorem dL_law_892 : decode cL_law 892 = .ok (.iconst 0, 1) := by decide +kernel
theorem dL_law_893 : decode cL_law 893 = .ok (.iconst 0, 1) := by decide +kernel
theorem dL_law_894 : decode cL_law 894 = .ok (.invokestatic 271, 3) := by decide +kernel
theorem dL_law_897 : decode cL_law 897 = .ok (.ldc 52, 2) := by decide +kernel
theorem dL_law_899 : decode cL_law 899 = .ok (.if_icmp .ne 66, 3) := by decide +kernel
theorem dL_law_902 : decode cL_law 902 = .ok (.aload_n 3, 1) := by decide +kernel
theorem dL_law_903 : decode cL_law 903 = .ok (.iconst (-1), 1) := by decide +kernel
theorem dL_law_904 : decode cL_law 904 = .ok (.iconst 0, 1) := by decide +kernel
theorem dL_law_905 : decode cL_law 905 = .ok (.invokestatic 273, 3) := by decide +kernel
theorem dL_law_908 : decode cL_law 908 = .ok (.ldc 52, 2) := by decide +kernel
theorem dL_law_910 : decode cL_law 910 = .ok (.if_icmp .ne 55, 3) := by decide +kernel
theorem dL_law_913 : decode cL_law 913 = .ok (.aload_n 3, 1) := by decide +kernel
theorem dL_law_914 : decode cL_law 914 = .ok (.iconst 0, 1) := by decide +kernel
theorem dL_law_915 : decode cL_law 915 = .ok (.iconst 5, 1) := by decide +kernel
theorem dL_law_916 : decode cL_law 916 = .ok (.iconst 0, 1) := by decide +kernel
theorem dL_law_917 : decode cL_law 917 = .ok (.iconst 0, 1) := by decide +kernel
theorem dL_law_918 : decode cL_law 918 = .ok (.invokestatic 275, 3) := by decide +kernel
theorem dL_law_921 : decode cL_law 921 = .ok (.ldc 52, 2) := by decide +kernel
theorem dL_law_923 : decode cL_law 923 = .ok (.if_icmp .ne 42, 3) := by decide +kernel
theorem dL_law_926 : decode cL_law 926 = .ok (.aload_n 3, 1) := by decide +kernel
theorem dL_law_927 : decode cL_law 927 = .ok (.bipush 20, 2) := by decide +kernel
theorem dL_law_929 : decode cL_law 929 = .ok (.iconst 0, 1) := by decide +kernel
theorem dL_law_930 : decode cL_law 930 = .ok (.invokestatic 278, 3) := by decide +kernel
theorem dL_law_933 : decode cL_law 933 = .ok (.ldc 52, 2) := by decide +kernel
theorem dL_law_935 : decode cL_law 935 = .ok (.if_icmp .ne 30, 3) := by decide +kernel
theorem dL_law_938 : decode cL_law 938 = .ok (.aload_n 3, 1) := by decide +kernel
theorem dL_law_939 : decode cL_law 939 = .ok (.iconst (-1), 1) := by decide +kernel
theorem dL_law_940 : decode cL_law 940 = .ok (.iconst 0, 1) := by decide +kernel
theorem dL_law_941 : decode cL_law 941 = .ok (.invokestatic 280, 3) := by decide +kernel
theorem dL_law_944 : decode cL_law 944 = .ok (.ldc 52, 2) := by decide +kernel
theorem dL_law_946 : decode cL_law 946 = .ok (.if_icmp .ne 19, 3) := by decide +kernel
theorem dL_law_949 : decode cL_law 949 = .ok (.aload_n 3, 1) := by decide +kernel
theorem dL_law_950 : decode cL_law 950 = .ok (.bipush 101, 2) := by decide +kernel
theorem dL_law_952 : decode cL_law 952 = .ok (.iconst 0, 1) := by decide +kernel
theorem dL_law_953 : decode cL_law 953 = .ok (.invokestatic 282, 3) := by decide +kernel
theorem dL_law_956 : decode cL_law 956 = .ok (.ldc 42, 2) := by decide +kernel
theorem dL_law_958 : decode cL_law 958 = .ok (.if_icmp .ne 7, 3) := by decide +kernel
theorem dL_law_961 : decode cL_law 961 = .ok (.iconst 1, 1) := by decide +kernel
theorem dL_law_962 : decode cL_law 962 = .ok (.goto 4, 3) := by decide +kernel
theorem dL_law_965 : decode cL_law 965 = .ok (.iconst 0, 1) := by decide +kernel
theorem dL_law_966 : decode cL_law 966 = .ok (.istore_n 1, 1) := by decide +kernel
theorem dL_law_967 : decode cL_law 967 = .ok (.iinc 2 1, 3) := by decide +kernel
theorem dL_law_970 : decode cL_law 970 = .ok (.goto (-966), 3) := by decide +kernel
theorem dL_law_973 : decode cL_law 973 = .ok (.iload_n 1, 1) := by decide +kernel
theorem dL_law_974 : decode cL_law 974 = .ok (.ireturn, 1) := by decide +kernel
abbrev vwCl : List vw_C := [(RX0, TX0, 10), (RX1, TX1, 5), (RX2, TX2, 3), (RX3, TX3, 12), (RX4, TX4, 2), (RX5, TX5, 5), (RX6, TX6, 8), (RX7, TX7, 7), (RX8, TX8, 4), (RX9, TX9, 1), (RX10, TX10, 11), (RJ0, TJ0, 4), (RJ4, TJ4, 4)]
