theorem dX12_in_0 : decode cX12_in 0 = .ok (.lload_n 0, 1) := by decide +kernel
theorem dX12_in_1 : decode cX12_in 1 = .ok (.lload_n 2, 1) := by decide +kernel
theorem dX12_in_2 : decode cX12_in 2 = .ok (.lcmp, 1) := by decide +kernel
theorem dX12_in_3 : decode cX12_in 3 = .ok (.ifCond .lt 14, 3) := by decide +kernel
theorem dX12_in_6 : decode cX12_in 6 = .ok (.lload_n 0, 1) := by decide +kernel
theorem dX12_in_7 : decode cX12_in 7 = .ok (.lload 4, 2) := by decide +kernel
theorem dX12_in_9 : decode cX12_in 9 = .ok (.lcmp, 1) := by decide +kernel
theorem dX12_in_10 : decode cX12_in 10 = .ok (.ifCond .gt 7, 3) := by decide +kernel
theorem dX12_in_13 : decode cX12_in 13 = .ok (.iconst 1, 1) := by decide +kernel
theorem dX12_in_14 : decode cX12_in 14 = .ok (.goto 4, 3) := by decide +kernel
theorem dX12_in_17 : decode cX12_in 17 = .ok (.iconst 0, 1) := by decide +kernel
theorem dX12_in_18 : decode cX12_in 18 = .ok (.ireturn, 1) := by decide +kernel
theorem dX12_init_0 : decode cX12_init 0 = .ok (.aload_n 0, 1) := by decide +kernel
theorem dX12_init_1 : decode cX12_init 1 = .ok (.invokespecial 7, 3) := by decide +kernel
theorem dX12_init_4 : decode cX12_init 4 = .ok (.aload_n 0, 1) := by decide +kernel
theorem dX12_init_5 : decode cX12_init 5 = .ok (.sipush 960, 3) := by decide +kernel
theorem dX12_init_8 : decode cX12_init 8 = .ok (.newarray .int, 2) := by decide +kernel
theorem dX12_init_10 : decode cX12_init 10 = .ok (.putfield 13, 3) := by decide +kernel
theorem dX12_init_13 : decode cX12_init 13 = .ok (.aload_n 0, 1) := by decide +kernel
theorem dX12_init_14 : decode cX12_init 14 = .ok (.bipush 6, 2) := by decide +kernel
theorem dX12_init_16 : decode cX12_init 16 = .ok (.newarray .int, 2) := by decide +kernel
theorem dX12_init_18 : decode cX12_init 18 = .ok (.putfield 17, 3) := by decide +kernel
theorem dX12_init_21 : decode cX12_init 21 = .ok (.aload_n 0, 1) := by decide +kernel
theorem dX12_init_22 : decode cX12_init 22 = .ok (.sipush 160, 3) := by decide +kernel
theorem dX12_init_25 : decode cX12_init 25 = .ok (.newarray .int, 2) := by decide +kernel
theorem dX12_init_27 : decode cX12_init 27 = .ok (.putfield 20, 3) := by decide +kernel
theorem dX12_init_30 : decode cX12_init 30 = .ok (.aload_n 0, 1) := by decide +kernel
theorem dX12_init_31 : decode cX12_init 31 = .ok (.sipush 676, 3) := by decide +kernel
theorem dX12_init_34 : decode cX12_init 34 = .ok (.newarray .long, 2) := by decide +kernel
theorem dX12_init_36 : decode cX12_init 36 = .ok (.putfield 23, 3) := by decide +kernel
theorem dX12_init_39 : decode cX12_init 39 = .ok (.aload_n 0, 1) := by decide +kernel
theorem dX12_init_40 : decode cX12_init 40 = .ok (.bipush 20, 2) := by decide +kernel
theorem dX12_init_42 : decode cX12_init 42 = .ok (.newarray .int, 2) := by decide +kernel
theorem dX12_init_44 : decode cX12_init 44 = .ok (.putfield 27, 3) := by decide +kernel
theorem dX12_init_47 : decode cX12_init 47 = .ok (.aload_n 0, 1) := by decide +kernel
theorem dX12_init_48 : decode cX12_init 48 = .ok (.iconst 4, 1) := by decide +kernel
theorem dX12_init_49 : decode cX12_init 49 = .ok (.newarray .int, 2) := by decide +kernel
theorem dX12_init_51 : decode cX12_init 51 = .ok (.putfield 30, 3) := by decide +kernel
theorem dX12_init_54 : decode cX12_init 54 = .ok (.aload_n 0, 1) := by decide +kernel
theorem dX12_init_55 : decode cX12_init 55 = .ok (.bipush 16, 2) := by decide +kernel
theorem dX12_init_57 : decode cX12_init 57 = .ok (.newarray .int, 2) := by decide +kernel
theorem dX12_init_59 : decode cX12_init 59 = .ok (.putfield 33, 3) := by decide +kernel
theorem dX12_init_62 : decode cX12_init 62 = .ok (.aload_n 0, 1) := by decide +kernel
theorem dX12_init_63 : decode cX12_init 63 = .ok (.bipush 16, 2) := by decide +kernel
theorem dX12_init_65 : decode cX12_init 65 = .ok (.newarray .int, 2) := by decide +kernel
theorem dX12_init_67 : decode cX12_init 67 = .ok (.putfield 36, 3) := by decide +kernel
theorem dX12_init_70 : decode cX12_init 70 = .ok (.aload_n 0, 1) := by decide +kernel
theorem dX12_init_71 : decode cX12_init 71 = .ok (.bipush 16, 2) := by decide +kernel
theorem dX12_init_73 : decode cX12_init 73 = .ok (.newarray .int, 2) := by decide +kernel
theorem dX12_init_75 : decode cX12_init 75 = .ok (.putfield 39, 3) := by decide +kernel
theorem dX12_init_78 : decode cX12_init 78 = .ok (.aload_n 0, 1) := by decide +kernel
theorem dX12_init_79 : decode cX12_init 79 = .ok (.sipush 400, 3) := by decide +kernel
theorem dX12_init_82 : decode cX12_init 82 = .ok (.newarray .int, 2) := by decide +kernel
theorem dX12_init_84 : decode cX12_init 84 = .ok (.putfield 42, 3) := by decide +kernel
theorem dX12_init_87 : decode cX12_init 87 = .ok (.aload_n 0, 1) := by decide +kernel
theorem dX12_init_88 : decode cX12_init 88 = .ok (.sipush 400, 3) := by decide +kernel
theorem dX12_init_91 : decode cX12_init 91 = .ok (.newarray .int, 2) := by decide +kernel
theorem dX12_init_93 : decode cX12_init 93 = .ok (.putfield 45, 3) := by decide +kernel
theorem dX12_init_96 : decode cX12_init 96 = .ok (.aload_n 0, 1) := by decide +kernel
theorem dX12_init_97 : decode cX12_init 97 = .ok (.bipush 16, 2) := by decide +kernel
theorem dX12_init_99 : decode cX12_init 99 = .ok (.newarray .int, 2) := by decide +kernel
theorem dX12_init_101 : decode cX12_init 101 = .ok (.putfield 48, 3) := by decide +kernel
theorem dX12_init_104 : decode cX12_init 104 = .ok (.aload_n 0, 1) := by decide +kernel
theorem dX12_init_105 : decode cX12_init 105 = .ok (.bipush 16, 2) := by decide +kernel
theorem dX12_init_107 : decode cX12_init 107 = .ok (.newarray .int, 2) := by decide +kernel
theorem dX12_init_109 : decode cX12_init 109 = .ok (.putfield 51, 3) := by decide +kernel
theorem dX12_init_112 : decode cX12_init 112 = .ok (.aload_n 0, 1) := by decide +kernel
theorem dX12_init_113 : decode cX12_init 113 = .ok (.bipush 25, 2) := by decide +kernel
theorem dX12_init_115 : decode cX12_init 115 = .ok (.newarray .int, 2) := by decide +kernel
theorem dX12_init_117 : decode cX12_init 117 = .ok (.putfield 54, 3) := by decide +kernel
theorem dX12_init_120 : decode cX12_init 120 = .ok (.aload_n 0, 1) := by decide +kernel
theorem dX12_init_121 : decode cX12_init 121 = .ok (.iconst 5, 1) := by decide +kernel
theorem dX12_init_122 : decode cX12_init 122 = .ok (.newarray .int, 2) := by decide +kernel
theorem dX12_init_124 : decode cX12_init 124 = .ok (.putfield 57, 3) := by decide +kernel
theorem dX12_init_127 : decode cX12_init 127 = .ok (.aload_n 0, 1) := by decide +kernel
theorem dX12_init_128 : decode cX12_init 128 = .ok (.bipush 26, 2) := by decide +kernel
theorem dX12_init_130 : decode cX12_init 130 = .ok (.newarray .long, 2) := by decide +kernel
theorem dX12_init_132 : decode cX12_init 132 = .ok (.putfield 60, 3) := by decide +kernel
theorem dX12_init_135 : decode cX12_init 135 = .ok (.aload_n 0, 1) := by decide +kernel
theorem dX12_init_136 : decode cX12_init 136 = .ok (.bipush 26, 2) := by decide +kernel
theorem dX12_init_138 : decode cX12_init 138 = .ok (.newarray .long, 2) := by decide +kernel
theorem dX12_init_140 : decode cX12_init 140 = .ok (.putfield 63, 3) := by decide +kernel
theorem dX12_init_143 : decode cX12_init 143 = .ok (.aload_n 0, 1) := by decide +kernel
theorem dX12_init_144 : decode cX12_init 144 = .ok (.iconst 5, 1) := by decide +kernel
theorem dX12_init_145 : decode cX12_init 145 = .ok (.newarray .int, 2) := by decide +kernel
theorem dX12_init_147 : decode cX12_init 147 = .ok (.putfield 66, 3) := by decide +kernel
theorem dX12_init_150 : decode cX12_init 150 = .ok (.aload_n 0, 1) := by decide +kernel
theorem dX12_init_151 : decode cX12_init 151 = .ok (.bipush 10, 2) := by decide +kernel
theorem dX12_init_153 : decode cX12_init 153 = .ok (.newarray .int, 2) := by decide +kernel
theorem dX12_init_155 : decode cX12_init 155 = .ok (.putfield 69, 3) := by decide +kernel
theorem dX12_init_158 : decode cX12_init 158 = .ok (.aload_n 0, 1) := by decide +kernel
theorem dX12_init_159 : decode cX12_init 159 = .ok (.bipush 10, 2) := by decide +kernel
theorem dX12_init_161 : decode cX12_init 161 = .ok (.newarray .int, 2) := by decide +kernel
theorem dX12_init_163 : decode cX12_init 163 = .ok (.putfield 72, 3) := by decide +kernel
theorem dX12_init_166 : decode cX12_init 166 = .ok (.aload_n 0, 1) := by decide +kernel
theorem dX12_init_167 : decode cX12_init 167 = .ok (.bipush 10, 2) := by decide +kernel
theorem dX12_init_169 : decode cX12_init 169 = .ok (.newarray .int, 2) := by decide +kernel
theorem dX12_init_171 : decode cX12_init 171 = .ok (.putfield 75, 3) := by decide +kernel
theorem dX12_init_174 : decode cX12_init 174 = .ok (.aload_n 0, 1) := by decide +kernel
theorem dX12_init_175 : decode cX12_init 175 = .ok (.bipush 10, 2) := by decide +kernel
theorem dX12_init_177 : decode cX12_init 177 = .ok (.newarray .int, 2) := by decide +kernel
theorem dX12_init_179 : decode cX12_init 179 = .ok (.putfield 78, 3) := by decide +kernel
theorem dX12_init_182 : decode cX12_init 182 = .ok (.aload_n 0, 1) := by decide +kernel
theorem dX12_init_183 : decode cX12_init 183 = .ok (.bipush 6, 2) := by decide +kernel
theorem dX12_init_185 : decode cX12_init 185 = .ok (.newarray .int, 2) := by decide +kernel
theorem dX12_init_187 : decode cX12_init 187 = .ok (.putfield 81, 3) := by decide +kernel
theorem dX12_init_190 : decode cX12_init 190 = .ok (.aload_n 0, 1) := by decide +kernel
theorem dX12_init_191 : decode cX12_init 191 = .ok (.bipush 6, 2) := by decide +kernel
theorem dX12_init_193 : decode cX12_init 193 = .ok (.newarray .int, 2) := by decide +kernel
theorem dX12_init_195 : decode cX12_init 195 = .ok (.putfield 84, 3) := by decide +kernel
theorem dX12_init_198 : decode cX12_init 198 = .ok (.aload_n 0, 1) := by decide +kernel
theorem dX12_init_199 : decode cX12_init 199 = .ok (.bipush 25, 2) := by decide +kernel
theorem dX12_init_201 : decode cX12_init 201 = .ok (.newarray .int, 2) := by decide +kernel
theorem dX12_init_203 : decode cX12_init 203 = .ok (.putfield 87, 3) := by decide +kernel
theorem dX12_init_206 : decode cX12_init 206 = .ok (.aload_n 0, 1) := by decide +kernel
theorem dX12_init_207 : decode cX12_init 207 = .ok (.sipush 400, 3) := by decide +kernel
theorem dX12_init_210 : decode cX12_init 210 = .ok (.newarray .int, 2) := by decide +kernel
theorem dX12_init_212 : decode cX12_init 212 = .ok (.putfield 90, 3) := by decide +kernel
theorem dX12_init_215 : decode cX12_init 215 = .ok (.aload_n 0, 1) := by decide +kernel
theorem dX12_init_216 : decode cX12_init 216 = .ok (.sipush 400, 3) := by decide +kernel
theorem dX12_init_219 : decode cX12_init 219 = .ok (.newarray .int, 2) := by decide +kernel
theorem dX12_init_221 : decode cX12_init 221 = .ok (.putfield 93, 3) := by decide +kernel
theorem dX12_init_224 : decode cX12_init 224 = .ok (.aload_n 0, 1) := by decide +kernel
theorem dX12_init_225 : decode cX12_init 225 = .ok (.bipush 16, 2) := by decide +kernel
theorem dX12_init_227 : decode cX12_init 227 = .ok (.newarray .int, 2) := by decide +kernel
theorem dX12_init_229 : decode cX12_init 229 = .ok (.putfield 96, 3) := by decide +kernel
theorem dX12_init_232 : decode cX12_init 232 = .ok (.aload_n 0, 1) := by decide +kernel
theorem dX12_init_233 : decode cX12_init 233 = .ok (.bipush 16, 2) := by decide +kernel
theorem dX12_init_235 : decode cX12_init 235 = .ok (.newarray .int, 2) := by decide +kernel
theorem dX12_init_237 : decode cX12_init 237 = .ok (.putfield 99, 3) := by decide +kernel
theorem dX12_init_240 : decode cX12_init 240 = .ok (.aload_n 0, 1) := by decide +kernel
theorem dX12_init_241 : decode cX12_init 241 = .ok (.bipush 10, 2) := by decide +kernel
theorem dX12_init_243 : decode cX12_init 243 = .ok (.newarray .int, 2) := by decide +kernel
theorem dX12_init_245 : decode cX12_init 245 = .ok (.putfield 102, 3) := by decide +kernel
theorem dX12_init_248 : decode cX12_init 248 = .ok (.aload_n 0, 1) := by decide +kernel
theorem dX12_init_249 : decode cX12_init 249 = .ok (.iconst 4, 1) := by decide +kernel
theorem dX12_init_250 : decode cX12_init 250 = .ok (.newarray .boolean, 2) := by decide +kernel
theorem dX12_init_252 : decode cX12_init 252 = .ok (.putfield 105, 3) := by decide +kernel
theorem dX12_init_255 : decode cX12_init 255 = .ok (.aload_n 0, 1) := by decide +kernel
theorem dX12_init_256 : decode cX12_init 256 = .ok (.iconst 4, 1) := by decide +kernel
theorem dX12_init_257 : decode cX12_init 257 = .ok (.newarray .int, 2) := by decide +kernel
theorem dX12_init_259 : decode cX12_init 259 = .ok (.putfield 109, 3) := by decide +kernel
theorem dX12_init_262 : decode cX12_init 262 = .ok (.aload_n 0, 1) := by decide +kernel
theorem dX12_init_263 : decode cX12_init 263 = .ok (.iconst 4, 1) := by decide +kernel
theorem dX12_init_264 : decode cX12_init 264 = .ok (.newarray .int, 2) := by decide +kernel
theorem dX12_init_266 : decode cX12_init 266 = .ok (.putfield 112, 3) := by decide +kernel
theorem dX12_init_269 : decode cX12_init 269 = .ok (.aload_n 0, 1) := by decide +kernel
theorem dX12_init_270 : decode cX12_init 270 = .ok (.sipush 160, 3) := by decide +kernel
theorem dX12_init_273 : decode cX12_init 273 = .ok (.newarray .int, 2) := by decide +kernel
theorem dX12_init_275 : decode cX12_init 275 = .ok (.putfield 115, 3) := by decide +kernel
theorem dX12_init_278 : decode cX12_init 278 = .ok (.aload_n 0, 1) := by decide +kernel
theorem dX12_init_279 : decode cX12_init 279 = .ok (.iconst 0, 1) := by decide +kernel
theorem dX12_init_280 : decode cX12_init 280 = .ok (.ldc2_w 118, 3) := by decide +kernel
theorem dX12_init_283 : decode cX12_init 283 = .ok (.invokevirtual 120, 3) := by decide +kernel
theorem dX12_init_286 : decode cX12_init 286 = .ok (.aload_n 0, 1) := by decide +kernel
theorem dX12_init_287 : decode cX12_init 287 = .ok (.bipush 8, 2) := by decide +kernel
theorem dX12_init_289 : decode cX12_init 289 = .ok (.ldc2_w 124, 3) := by decide +kernel
theorem dX12_init_292 : decode cX12_init 292 = .ok (.invokevirtual 120, 3) := by decide +kernel
theorem dX12_init_295 : decode cX12_init 295 = .ok (.aload_n 0, 1) := by decide +kernel
theorem dX12_init_296 : decode cX12_init 296 = .ok (.bipush 16, 2) := by decide +kernel
theorem dX12_init_298 : decode cX12_init 298 = .ok (.ldc2_w 126, 3) := by decide +kernel
theorem dX12_init_301 : decode cX12_init 301 = .ok (.invokevirtual 120, 3) := by decide +kernel
theorem dX12_init_304 : decode cX12_init 304 = .ok (.aload_n 0, 1) := by decide +kernel
theorem dX12_init_305 : decode cX12_init 305 = .ok (.bipush 24, 2) := by decide +kernel
theorem dX12_init_307 : decode cX12_init 307 = .ok (.ldc2_w 124, 3) := by decide +kernel
theorem dX12_init_310 : decode cX12_init 310 = .ok (.invokevirtual 120, 3) := by decide +kernel
theorem dX12_init_313 : decode cX12_init 313 = .ok (.aload_n 0, 1) := by decide +kernel
theorem dX12_init_314 : decode cX12_init 314 = .ok (.bipush 32, 2) := by decide +kernel
theorem dX12_init_316 : decode cX12_init 316 = .ok (.ldc2_w 128, 3) := by decide +kernel
theorem dX12_init_319 : decode cX12_init 319 = .ok (.invokevirtual 120, 3) := by decide +kernel
theorem dX12_init_322 : decode cX12_init 322 = .ok (.aload_n 0, 1) := by decide +kernel
theorem dX12_init_323 : decode cX12_init 323 = .ok (.bipush 40, 2) := by decide +kernel
theorem dX12_init_325 : decode cX12_init 325 = .ok (.ldc2_w 130, 3) := by decide +kernel
theorem dX12_init_328 : decode cX12_init 328 = .ok (.invokevirtual 120, 3) := by decide +kernel
theorem dX12_init_331 : decode cX12_init 331 = .ok (.aload_n 0, 1) := by decide +kernel
theorem dX12_init_332 : decode cX12_init 332 = .ok (.bipush 48, 2) := by decide +kernel
theorem dX12_init_334 : decode cX12_init 334 = .ok (.ldc2_w 132, 3) := by decide +kernel
theorem dX12_init_337 : decode cX12_init 337 = .ok (.invokevirtual 120, 3) := by decide +kernel
theorem dX12_init_340 : decode cX12_init 340 = .ok (.aload_n 0, 1) := by decide +kernel
theorem dX12_init_341 : decode cX12_init 341 = .ok (.getfield 17, 3) := by decide +kernel
theorem dX12_init_344 : decode cX12_init 344 = .ok (.iconst 0, 1) := by decide +kernel
theorem dX12_init_345 : decode cX12_init 345 = .ok (.bipush 56, 2) := by decide +kernel
theorem dX12_init_347 : decode cX12_init 347 = .ok (.iastore, 1) := by decide +kernel
theorem dX12_init_348 : decode cX12_init 348 = .ok (.aload_n 0, 1) := by decide +kernel
theorem dX12_init_349 : decode cX12_init 349 = .ok (.iconst 1, 1) := by decide +kernel
theorem dX12_init_350 : decode cX12_init 350 = .ok (.putfield 134, 3) := by decide +kernel
theorem dX12_init_353 : decode cX12_init 353 = .ok (.iconst 0, 1) := by decide +kernel
theorem dX12_init_354 : decode cX12_init 354 = .ok (.istore_n 1, 1) := by decide +kernel
theorem dX12_init_355 : decode cX12_init 355 = .ok (.iload_n 1, 1) := by decide +kernel
theorem dX12_init_356 : decode cX12_init 356 = .ok (.bipush 25, 2) := by decide +kernel
theorem dX12_init_358 : decode cX12_init 358 = .ok (.if_icmp .gt 81, 3) := by decide +kernel
theorem dX12_init_361 : decode cX12_init 361 = .ok (.aload_n 0, 1) := by decide +kernel
theorem dX12_init_362 : decode cX12_init 362 = .ok (.getfield 23, 3) := by decide +kernel
theorem dX12_init_365 : decode cX12_init 365 = .ok (.bipush 26, 2) := by decide +kernel
theorem dX12_init_367 : decode cX12_init 367 = .ok (.iload_n 1, 1) := by decide +kernel
theorem dX12_init_368 : decode cX12_init 368 = .ok (.imul, 1) := by decide +kernel
theorem dX12_init_369 : decode cX12_init 369 = .ok (.lconst 1, 1) := by decide +kernel
theorem dX12_init_370 : decode cX12_init 370 = .ok (.lastore, 1) := by decide +kernel
theorem dX12_init_371 : decode cX12_init 371 = .ok (.iconst 1, 1) := by decide +kernel
theorem dX12_init_372 : decode cX12_init 372 = .ok (.istore_n 2, 1) := by decide +kernel
theorem dX12_init_373 : decode cX12_init 373 = .ok (.iload_n 2, 1) := by decide +kernel
theorem dX12_init_374 : decode cX12_init 374 = .ok (.iload_n 1, 1) := by decide +kernel
theorem dX12_init_375 : decode cX12_init 375 = .ok (.if_icmp .gt 58, 3) := by decide +kernel
theorem dX12_init_378 : decode cX12_init 378 = .ok (.aload_n 0, 1) := by decide +kernel
theorem dX12_init_379 : decode cX12_init 379 = .ok (.getfield 23, 3) := by decide +kernel
theorem dX12_init_382 : decode cX12_init 382 = .ok (.bipush 26, 2) := by decide +kernel
theorem dX12_init_384 : decode cX12_init 384 = .ok (.iload_n 1, 1) := by decide +kernel
theorem dX12_init_385 : decode cX12_init 385 = .ok (.imul, 1) := by decide +kernel
theorem dX12_init_386 : decode cX12_init 386 = .ok (.iload_n 2, 1) := by decide +kernel
theorem dX12_init_387 : decode cX12_init 387 = .ok (.iadd, 1) := by decide +kernel
theorem dX12_init_388 : decode cX12_init 388 = .ok (.aload_n 0, 1) := by decide +kernel
theorem dX12_init_389 : decode cX12_init 389 = .ok (.getfield 23, 3) := by decide +kernel
theorem dX12_init_392 : decode cX12_init 392 = .ok (.bipush 26, 2) := by decide +kernel
theorem dX12_init_394 : decode cX12_init 394 = .ok (.iload_n 1, 1) := by decide +kernel
theorem dX12_init_395 : decode cX12_init 395 = .ok (.iconst 1, 1) := by decide +kernel
theorem dX12_init_396 : decode cX12_init 396 = .ok (.isub, 1) := by decide +kernel
theorem dX12_init_397 : decode cX12_init 397 = .ok (.imul, 1) := by decide +kernel
theorem dX12_init_398 : decode cX12_init 398 = .ok (.iload_n 2, 1) := by decide +kernel
theorem dX12_init_399 : decode cX12_init 399 = .ok (.iadd, 1) := by decide +kernel
theorem dX12_init_400 : decode cX12_init 400 = .ok (.iconst 1, 1) := by decide +kernel
theorem dX12_init_401 : decode cX12_init 401 = .ok (.isub, 1) := by decide +kernel
theorem dX12_init_402 : decode cX12_init 402 = .ok (.laload, 1) := by decide +kernel
theorem dX12_init_403 : decode cX12_init 403 = .ok (.iload_n 2, 1) := by decide +kernel
theorem dX12_init_404 : decode cX12_init 404 = .ok (.iload_n 1, 1) := by decide +kernel
theorem dX12_init_405 : decode cX12_init 405 = .ok (.if_icmp .ge 19, 3) := by decide +kernel
theorem dX12_init_408 : decode cX12_init 408 = .ok (.aload_n 0, 1) := by decide +kernel
theorem dX12_init_409 : decode cX12_init 409 = .ok (.getfield 23, 3) := by decide +kernel
theorem dX12_init_412 : decode cX12_init 412 = .ok (.bipush 26, 2) := by decide +kernel
theorem dX12_init_414 : decode cX12_init 414 = .ok (.iload_n 1, 1) := by decide +kernel
theorem dX12_init_415 : decode cX12_init 415 = .ok (.iconst 1, 1) := by decide +kernel
theorem dX12_init_416 : decode cX12_init 416 = .ok (.isub, 1) := by decide +kernel
theorem dX12_init_417 : decode cX12_init 417 = .ok (.imul, 1) := by decide +kernel
theorem dX12_init_418 : decode cX12_init 418 = .ok (.iload_n 2, 1) := by decide +kernel
theorem dX12_init_419 : decode cX12_init 419 = .ok (.iadd, 1) := by decide +kernel
theorem dX12_init_420 : decode cX12_init 420 = .ok (.laload, 1) := by decide +kernel
theorem dX12_init_421 : decode cX12_init 421 = .ok (.goto 4, 3) := by decide +kernel
theorem dX12_init_424 : decode cX12_init 424 = .ok (.lconst 0, 1) := by decide +kernel
theorem dX12_init_425 : decode cX12_init 425 = .ok (.ladd, 1) := by decide +kernel
theorem dX12_init_426 : decode cX12_init 426 = .ok (.lastore, 1) := by decide +kernel
theorem dX12_init_427 : decode cX12_init 427 = .ok (.iinc 2 1, 3) := by decide +kernel
theorem dX12_init_430 : decode cX12_init 430 = .ok (.goto (-57), 3) := by decide +kernel
theorem dX12_init_433 : decode cX12_init 433 = .ok (.iinc 1 1, 3) := by decide +kernel
theorem dX12_init_436 : decode cX12_init 436 = .ok (.goto (-81), 3) := by decide +kernel
theorem dX12_init_439 : decode cX12_init 439 = .ok (.return_, 1) := by decide +kernel
theorem dX12_spell_0 : decode cX12_spell 0 = .ok (.iconst 0, 1) := by decide +kernel
theorem dX12_spell_1 : decode cX12_spell 1 = .ok (.istore 4, 2) := by decide +kernel
theorem dX12_spell_3 : decode cX12_spell 3 = .ok (.iload 4, 2) := by decide +kernel
theorem dX12_spell_5 : decode cX12_spell 5 = .ok (.bipush 8, 2) := by decide +kernel
theorem dX12_spell_7 : decode cX12_spell 7 = .ok (.if_icmp .ge 33, 3) := by decide +kernel
theorem dX12_spell_10 : decode cX12_spell 10 = .ok (.aload_n 0, 1) := by decide +kernel
theorem dX12_spell_11 : decode cX12_spell 11 = .ok (.getfield 13, 3) := by decide +kernel
theorem dX12_spell_14 : decode cX12_spell 14 = .ok (.iload_n 1, 1) := by decide +kernel
theorem dX12_spell_15 : decode cX12_spell 15 = .ok (.iload 4, 2) := by decide +kernel
theorem dX12_spell_17 : decode cX12_spell 17 = .ok (.iadd, 1) := by decide +kernel
theorem dX12_spell_18 : decode cX12_spell 18 = .ok (.lload_n 2, 1) := by decide +kernel
theorem dX12_spell_19 : decode cX12_spell 19 = .ok (.bipush 56, 2) := by decide +kernel
theorem dX12_spell_21 : decode cX12_spell 21 = .ok (.bipush 8, 2) := by decide +kernel
theorem dX12_spell_23 : decode cX12_spell 23 = .ok (.iload 4, 2) := by decide +kernel
theorem dX12_spell_25 : decode cX12_spell 25 = .ok (.imul, 1) := by decide +kernel
theorem dX12_spell_26 : decode cX12_spell 26 = .ok (.isub, 1) := by decide +kernel
theorem dX12_spell_27 : decode cX12_spell 27 = .ok (.lshr, 1) := by decide +kernel
theorem dX12_spell_28 : decode cX12_spell 28 = .ok (.ldc2_w 137, 3) := by decide +kernel
theorem dX12_spell_31 : decode cX12_spell 31 = .ok (.land, 1) := by decide +kernel
theorem dX12_spell_32 : decode cX12_spell 32 = .ok (.l2i, 1) := by decide +kernel
theorem dX12_spell_33 : decode cX12_spell 33 = .ok (.iastore, 1) := by decide +kernel
theorem dX12_spell_34 : decode cX12_spell 34 = .ok (.iinc 4 1, 3) := by decide +kernel
theorem dX12_spell_37 : decode cX12_spell 37 = .ok (.goto (-34), 3) := by decide +kernel
theorem dX12_spell_40 : decode cX12_spell 40 = .ok (.return_, 1) := by decide +kernel
theorem dX12_isRun_0 : decode cX12_isRun 0 = .ok (.iload_n 1, 1) := by decide +kernel
theorem dX12_isRun_1 : decode cX12_isRun 1 = .ok (.i2l, 1) := by decide +kernel
theorem dX12_isRun_2 : decode cX12_isRun 2 = .ok (.lconst 0, 1) := by decide +kernel
theorem dX12_isRun_3 : decode cX12_isRun 3 = .ok (.aload_n 0, 1) := by decide +kernel
theorem dX12_isRun_4 : decode cX12_isRun 4 = .ok (.getfield 139, 3) := by decide +kernel
theorem dX12_isRun_7 : decode cX12_isRun 7 = .ok (.iconst 1, 1) := by decide +kernel
theorem dX12_isRun_8 : decode cX12_isRun 8 = .ok (.isub, 1) := by decide +kernel
theorem dX12_isRun_9 : decode cX12_isRun 9 = .ok (.i2l, 1) := by decide +kernel
theorem dX12_isRun_10 : decode cX12_isRun 10 = .ok (.invokestatic 142, 3) := by decide +kernel
theorem dX12_isRun_13 : decode cX12_isRun 13 = .ok (.ireturn, 1) := by decide +kernel
theorem dX12_isSignOf_0 : decode cX12_isSignOf 0 = .ok (.iload_n 0, 1) := by decide +kernel
theorem dX12_isSignOf_1 : decode cX12_isSignOf 1 = .ok (.i2l, 1) := by decide +kernel
theorem dX12_isSignOf_2 : decode cX12_isSignOf 2 = .ok (.lconst 0, 1) := by decide +kernel
theorem dX12_isSignOf_3 : decode cX12_isSignOf 3 = .ok (.ldc2_w 146, 3) := by decide +kernel
theorem dX12_isSignOf_6 : decode cX12_isSignOf 6 = .ok (.invokestatic 142, 3) := by decide +kernel
theorem dX12_isSignOf_9 : decode cX12_isSignOf 9 = .ok (.ireturn, 1) := by decide +kernel
theorem dX12_sizeOf_0 : decode cX12_sizeOf 0 = .ok (.aload_n 0, 1) := by decide +kernel
theorem dX12_sizeOf_1 : decode cX12_sizeOf 1 = .ok (.getfield 30, 3) := by decide +kernel
theorem dX12_sizeOf_4 : decode cX12_sizeOf 4 = .ok (.aload_n 0, 1) := by decide +kernel
theorem dX12_sizeOf_5 : decode cX12_sizeOf 5 = .ok (.getfield 33, 3) := by decide +kernel
theorem dX12_sizeOf_8 : decode cX12_sizeOf 8 = .ok (.iload_n 1, 1) := by decide +kernel
theorem dX12_sizeOf_9 : decode cX12_sizeOf 9 = .ok (.iaload, 1) := by decide +kernel
theorem dX12_sizeOf_10 : decode cX12_sizeOf 10 = .ok (.iaload, 1) := by decide +kernel
theorem dX12_sizeOf_11 : decode cX12_sizeOf 11 = .ok (.ireturn, 1) := by decide +kernel
theorem dX12_pack_0 : decode cX12_pack 0 = .ok (.iload_n 1, 1) := by decide +kernel
theorem dX12_pack_1 : decode cX12_pack 1 = .ok (.i2l, 1) := by decide +kernel
theorem dX12_pack_2 : decode cX12_pack 2 = .ok (.lconst 1, 1) := by decide +kernel
theorem dX12_pack_3 : decode cX12_pack 3 = .ok (.ldc2_w 148, 3) := by decide +kernel
theorem dX12_pack_6 : decode cX12_pack 6 = .ok (.invokestatic 142, 3) := by decide +kernel
theorem dX12_pack_9 : decode cX12_pack 9 = .ok (.ifCond .ne 6, 3) := by decide +kernel
theorem dX12_pack_12 : decode cX12_pack 12 = .ok (.bipush (-2), 2) := by decide +kernel
theorem dX12_pack_14 : decode cX12_pack 14 = .ok (.ireturn, 1) := by decide +kernel
theorem dX12_pack_15 : decode cX12_pack 15 = .ok (.iconst 0, 1) := by decide +kernel
theorem dX12_pack_16 : decode cX12_pack 16 = .ok (.istore_n 2, 1) := by decide +kernel
theorem dX12_pack_17 : decode cX12_pack 17 = .ok (.iload_n 1, 1) := by decide +kernel
theorem dX12_pack_18 : decode cX12_pack 18 = .ok (.istore_n 3, 1) := by decide +kernel
theorem dX12_pack_19 : decode cX12_pack 19 = .ok (.iload_n 3, 1) := by decide +kernel
theorem dX12_pack_20 : decode cX12_pack 20 = .ok (.ifCond .le 18, 3) := by decide +kernel
theorem dX12_pack_23 : decode cX12_pack 23 = .ok (.iload_n 2, 1) := by decide +kernel
theorem dX12_pack_24 : decode cX12_pack 24 = .ok (.iload_n 3, 1) := by decide +kernel
theorem dX12_pack_25 : decode cX12_pack 25 = .ok (.bipush 10, 2) := by decide +kernel
theorem dX12_pack_27 : decode cX12_pack 27 = .ok (.irem, 1) := by decide +kernel
theorem dX12_pack_28 : decode cX12_pack 28 = .ok (.iadd, 1) := by decide +kernel
theorem dX12_pack_29 : decode cX12_pack 29 = .ok (.istore_n 2, 1) := by decide +kernel
theorem dX12_pack_30 : decode cX12_pack 30 = .ok (.iload_n 3, 1) := by decide +kernel
theorem dX12_pack_31 : decode cX12_pack 31 = .ok (.bipush 10, 2) := by decide +kernel
theorem dX12_pack_33 : decode cX12_pack 33 = .ok (.idiv, 1) := by decide +kernel
theorem dX12_pack_34 : decode cX12_pack 34 = .ok (.istore_n 3, 1) := by decide +kernel
theorem dX12_pack_35 : decode cX12_pack 35 = .ok (.goto (-16), 3) := by decide +kernel
theorem dX12_pack_38 : decode cX12_pack 38 = .ok (.iload_n 2, 1) := by decide +kernel
theorem dX12_pack_39 : decode cX12_pack 39 = .ok (.bipush 25, 2) := by decide +kernel
theorem dX12_pack_41 : decode cX12_pack 41 = .ok (.if_icmp .le 6, 3) := by decide +kernel
theorem dX12_pack_44 : decode cX12_pack 44 = .ok (.bipush (-2), 2) := by decide +kernel
theorem dX12_pack_46 : decode cX12_pack 46 = .ok (.ireturn, 1) := by decide +kernel
theorem dX12_pack_47 : decode cX12_pack 47 = .ok (.aload_n 0, 1) := by decide +kernel
theorem dX12_pack_48 : decode cX12_pack 48 = .ok (.getfield 150, 3) := by decide +kernel
theorem dX12_pack_51 : decode cX12_pack 51 = .ok (.iconst 4, 1) := by decide +kernel
theorem dX12_pack_52 : decode cX12_pack 52 = .ok (.if_icmp .ne 6, 3) := by decide +kernel
theorem dX12_pack_55 : decode cX12_pack 55 = .ok (.bipush (-4), 2) := by decide +kernel
theorem dX12_pack_57 : decode cX12_pack 57 = .ok (.ireturn, 1) := by decide +kernel
theorem dX12_pack_58 : decode cX12_pack 58 = .ok (.iload_n 1, 1) := by decide +kernel
theorem dX12_pack_59 : decode cX12_pack 59 = .ok (.istore_n 3, 1) := by decide +kernel
theorem dX12_pack_60 : decode cX12_pack 60 = .ok (.iconst 4, 1) := by decide +kernel
theorem dX12_pack_61 : decode cX12_pack 61 = .ok (.istore 4, 2) := by decide +kernel
theorem dX12_pack_63 : decode cX12_pack 63 = .ok (.iload 4, 2) := by decide +kernel
theorem dX12_pack_65 : decode cX12_pack 65 = .ok (.ifCond .lt 32, 3) := by decide +kernel
theorem dX12_pack_68 : decode cX12_pack 68 = .ok (.aload_n 0, 1) := by decide +kernel
theorem dX12_pack_69 : decode cX12_pack 69 = .ok (.getfield 27, 3) := by decide +kernel
theorem dX12_pack_72 : decode cX12_pack 72 = .ok (.iconst 5, 1) := by decide +kernel
theorem dX12_pack_73 : decode cX12_pack 73 = .ok (.aload_n 0, 1) := by decide +kernel
theorem dX12_pack_74 : decode cX12_pack 74 = .ok (.getfield 150, 3) := by decide +kernel
theorem dX12_pack_77 : decode cX12_pack 77 = .ok (.imul, 1) := by decide +kernel
theorem dX12_pack_78 : decode cX12_pack 78 = .ok (.iload 4, 2) := by decide +kernel
theorem dX12_pack_80 : decode cX12_pack 80 = .ok (.iadd, 1) := by decide +kernel
theorem dX12_pack_81 : decode cX12_pack 81 = .ok (.iload_n 3, 1) := by decide +kernel
theorem dX12_pack_82 : decode cX12_pack 82 = .ok (.bipush 10, 2) := by decide +kernel
theorem dX12_pack_84 : decode cX12_pack 84 = .ok (.irem, 1) := by decide +kernel
theorem dX12_pack_85 : decode cX12_pack 85 = .ok (.iastore, 1) := by decide +kernel
theorem dX12_pack_86 : decode cX12_pack 86 = .ok (.iload_n 3, 1) := by decide +kernel
theorem dX12_pack_87 : decode cX12_pack 87 = .ok (.bipush 10, 2) := by decide +kernel
theorem dX12_pack_89 : decode cX12_pack 89 = .ok (.idiv, 1) := by decide +kernel
theorem dX12_pack_90 : decode cX12_pack 90 = .ok (.istore_n 3, 1) := by decide +kernel
theorem dX12_pack_91 : decode cX12_pack 91 = .ok (.iinc 4 (-1), 3) := by decide +kernel
theorem dX12_pack_94 : decode cX12_pack 94 = .ok (.goto (-31), 3) := by decide +kernel
theorem dX12_pack_97 : decode cX12_pack 97 = .ok (.aload_n 0, 1) := by decide +kernel
theorem dX12_pack_98 : decode cX12_pack 98 = .ok (.getfield 30, 3) := by decide +kernel
theorem dX12_pack_101 : decode cX12_pack 101 = .ok (.aload_n 0, 1) := by decide +kernel
theorem dX12_pack_102 : decode cX12_pack 102 = .ok (.getfield 150, 3) := by decide +kernel
theorem dX12_pack_105 : decode cX12_pack 105 = .ok (.iload_n 2, 1) := by decide +kernel
theorem dX12_pack_106 : decode cX12_pack 106 = .ok (.iastore, 1) := by decide +kernel
theorem dX12_pack_107 : decode cX12_pack 107 = .ok (.aload_n 0, 1) := by decide +kernel
theorem dX12_pack_108 : decode cX12_pack 108 = .ok (.dup, 1) := by decide +kernel
theorem dX12_pack_109 : decode cX12_pack 109 = .ok (.getfield 150, 3) := by decide +kernel
theorem dX12_pack_112 : decode cX12_pack 112 = .ok (.iconst 1, 1) := by decide +kernel
theorem dX12_pack_113 : decode cX12_pack 113 = .ok (.iadd, 1) := by decide +kernel
theorem dX12_pack_114 : decode cX12_pack 114 = .ok (.putfield 150, 3) := by decide +kernel
theorem dX12_pack_117 : decode cX12_pack 117 = .ok (.aload_n 0, 1) := by decide +kernel
theorem dX12_pack_118 : decode cX12_pack 118 = .ok (.getfield 150, 3) := by decide +kernel
theorem dX12_pack_121 : decode cX12_pack 121 = .ok (.iconst 1, 1) := by decide +kernel
theorem dX12_pack_122 : decode cX12_pack 122 = .ok (.isub, 1) := by decide +kernel
theorem dX12_pack_123 : decode cX12_pack 123 = .ok (.ireturn, 1) := by decide +kernel
theorem dX12_run_0 : decode cX12_run 0 = .ok (.iload_n 1, 1) := by decide +kernel
theorem dX12_run_1 : decode cX12_run 1 = .ok (.i2l, 1) := by decide +kernel
theorem dX12_run_2 : decode cX12_run 2 = .ok (.lconst 0, 1) := by decide +kernel
theorem dX12_run_3 : decode cX12_run 3 = .ok (.aload_n 0, 1) := by decide +kernel
theorem dX12_run_4 : decode cX12_run 4 = .ok (.getfield 150, 3) := by decide +kernel
theorem dX12_run_7 : decode cX12_run 7 = .ok (.iconst 1, 1) := by decide +kernel
theorem dX12_run_8 : decode cX12_run 8 = .ok (.isub, 1) := by decide +kernel
theorem dX12_run_9 : decode cX12_run 9 = .ok (.i2l, 1) := by decide +kernel
theorem dX12_run_10 : decode cX12_run 10 = .ok (.invokestatic 142, 3) := by decide +kernel
theorem dX12_run_13 : decode cX12_run 13 = .ok (.ifCond .eq 27, 3) := by decide +kernel
theorem dX12_run_16 : decode cX12_run 16 = .ok (.iload_n 2, 1) := by decide +kernel
theorem dX12_run_17 : decode cX12_run 17 = .ok (.i2l, 1) := by decide +kernel
theorem dX12_run_18 : decode cX12_run 18 = .ok (.lconst 0, 1) := by decide +kernel
theorem dX12_run_19 : decode cX12_run 19 = .ok (.ldc2_w 153, 3) := by decide +kernel
theorem dX12_run_22 : decode cX12_run 22 = .ok (.invokestatic 142, 3) := by decide +kernel
theorem dX12_run_25 : decode cX12_run 25 = .ok (.ifCond .eq 15, 3) := by decide +kernel
theorem dX12_run_28 : decode cX12_run 28 = .ok (.iload_n 3, 1) := by decide +kernel
theorem dX12_run_29 : decode cX12_run 29 = .ok (.i2l, 1) := by decide +kernel
theorem dX12_run_30 : decode cX12_run 30 = .ok (.lconst 0, 1) := by decide +kernel
theorem dX12_run_31 : decode cX12_run 31 = .ok (.ldc2_w 155, 3) := by decide +kernel
theorem dX12_run_34 : decode cX12_run 34 = .ok (.invokestatic 142, 3) := by decide +kernel
theorem dX12_run_37 : decode cX12_run 37 = .ok (.ifCond .ne 6, 3) := by decide +kernel
theorem dX12_run_40 : decode cX12_run 40 = .ok (.bipush (-2), 2) := by decide +kernel
theorem dX12_run_42 : decode cX12_run 42 = .ok (.ireturn, 1) := by decide +kernel
theorem dX12_run_43 : decode cX12_run 43 = .ok (.aload_n 0, 1) := by decide +kernel
theorem dX12_run_44 : decode cX12_run 44 = .ok (.getfield 139, 3) := by decide +kernel
theorem dX12_run_47 : decode cX12_run 47 = .ok (.bipush 16, 2) := by decide +kernel
theorem dX12_run_49 : decode cX12_run 49 = .ok (.if_icmp .ne 6, 3) := by decide +kernel
theorem dX12_run_52 : decode cX12_run 52 = .ok (.bipush (-4), 2) := by decide +kernel
theorem dX12_run_54 : decode cX12_run 54 = .ok (.ireturn, 1) := by decide +kernel
theorem dX12_run_55 : decode cX12_run 55 = .ok (.aload_n 0, 1) := by decide +kernel
theorem dX12_run_56 : decode cX12_run 56 = .ok (.getfield 33, 3) := by decide +kernel
theorem dX12_run_59 : decode cX12_run 59 = .ok (.aload_n 0, 1) := by decide +kernel
theorem dX12_run_60 : decode cX12_run 60 = .ok (.getfield 139, 3) := by decide +kernel
theorem dX12_run_63 : decode cX12_run 63 = .ok (.iload_n 1, 1) := by decide +kernel
theorem dX12_run_64 : decode cX12_run 64 = .ok (.iastore, 1) := by decide +kernel
theorem dX12_run_65 : decode cX12_run 65 = .ok (.aload_n 0, 1) := by decide +kernel
theorem dX12_run_66 : decode cX12_run 66 = .ok (.getfield 36, 3) := by decide +kernel
theorem dX12_run_69 : decode cX12_run 69 = .ok (.aload_n 0, 1) := by decide +kernel
theorem dX12_run_70 : decode cX12_run 70 = .ok (.getfield 139, 3) := by decide +kernel
theorem dX12_run_73 : decode cX12_run 73 = .ok (.iload_n 2, 1) := by decide +kernel
theorem dX12_run_74 : decode cX12_run 74 = .ok (.iastore, 1) := by decide +kernel
theorem dX12_run_75 : decode cX12_run 75 = .ok (.aload_n 0, 1) := by decide +kernel
theorem dX12_run_76 : decode cX12_run 76 = .ok (.getfield 39, 3) := by decide +kernel
theorem dX12_run_79 : decode cX12_run 79 = .ok (.aload_n 0, 1) := by decide +kernel
theorem dX12_run_80 : decode cX12_run 80 = .ok (.getfield 139, 3) := by decide +kernel
theorem dX12_run_83 : decode cX12_run 83 = .ok (.iload_n 3, 1) := by decide +kernel
theorem dX12_run_84 : decode cX12_run 84 = .ok (.iastore, 1) := by decide +kernel
theorem dX12_run_85 : decode cX12_run 85 = .ok (.aload_n 0, 1) := by decide +kernel
theorem dX12_run_86 : decode cX12_run 86 = .ok (.getfield 48, 3) := by decide +kernel
theorem dX12_run_89 : decode cX12_run 89 = .ok (.aload_n 0, 1) := by decide +kernel
theorem dX12_run_90 : decode cX12_run 90 = .ok (.getfield 139, 3) := by decide +kernel
theorem dX12_run_93 : decode cX12_run 93 = .ok (.iconst 0, 1) := by decide +kernel
theorem dX12_run_94 : decode cX12_run 94 = .ok (.iastore, 1) := by decide +kernel
theorem dX12_run_95 : decode cX12_run 95 = .ok (.aload_n 0, 1) := by decide +kernel
theorem dX12_run_96 : decode cX12_run 96 = .ok (.getfield 51, 3) := by decide +kernel
theorem dX12_run_99 : decode cX12_run 99 = .ok (.aload_n 0, 1) := by decide +kernel
theorem dX12_run_100 : decode cX12_run 100 = .ok (.getfield 139, 3) := by decide +kernel
theorem dX12_run_103 : decode cX12_run 103 = .ok (.iconst 0, 1) := by decide +kernel
theorem dX12_run_104 : decode cX12_run 104 = .ok (.iastore, 1) := by decide +kernel
theorem dX12_run_105 : decode cX12_run 105 = .ok (.bipush 25, 2) := by decide +kernel
theorem dX12_run_107 : decode cX12_run 107 = .ok (.aload_n 0, 1) := by decide +kernel
theorem dX12_run_108 : decode cX12_run 108 = .ok (.getfield 139, 3) := by decide +kernel
theorem dX12_run_111 : decode cX12_run 111 = .ok (.imul, 1) := by decide +kernel
theorem dX12_run_112 : decode cX12_run 112 = .ok (.istore 4, 2) := by decide +kernel
theorem dX12_run_114 : decode cX12_run 114 = .ok (.iconst 0, 1) := by decide +kernel
theorem dX12_run_115 : decode cX12_run 115 = .ok (.istore 5, 2) := by decide +kernel
theorem dX12_run_117 : decode cX12_run 117 = .ok (.iload 5, 2) := by decide +kernel
theorem dX12_run_119 : decode cX12_run 119 = .ok (.iconst 5, 1) := by decide +kernel
theorem dX12_run_120 : decode cX12_run 120 = .ok (.if_icmp .ge 54, 3) := by decide +kernel
theorem dX12_run_123 : decode cX12_run 123 = .ok (.iconst 0, 1) := by decide +kernel
theorem dX12_run_124 : decode cX12_run 124 = .ok (.istore 6, 2) := by decide +kernel
theorem dX12_run_126 : decode cX12_run 126 = .ok (.iload 6, 2) := by decide +kernel
theorem dX12_run_128 : decode cX12_run 128 = .ok (.aload_n 0, 1) := by decide +kernel
theorem dX12_run_129 : decode cX12_run 129 = .ok (.getfield 27, 3) := by decide +kernel
theorem dX12_run_132 : decode cX12_run 132 = .ok (.iconst 5, 1) := by decide +kernel
theorem dX12_run_133 : decode cX12_run 133 = .ok (.iload_n 1, 1) := by decide +kernel
theorem dX12_run_134 : decode cX12_run 134 = .ok (.imul, 1) := by decide +kernel
theorem dX12_run_135 : decode cX12_run 135 = .ok (.iload 5, 2) := by decide +kernel
theorem dX12_run_137 : decode cX12_run 137 = .ok (.iadd, 1) := by decide +kernel
theorem dX12_run_138 : decode cX12_run 138 = .ok (.iaload, 1) := by decide +kernel
theorem dX12_run_139 : decode cX12_run 139 = .ok (.if_icmp .ge 29, 3) := by decide +kernel
theorem dX12_run_142 : decode cX12_run 142 = .ok (.aload_n 0, 1) := by decide +kernel
theorem dX12_run_143 : decode cX12_run 143 = .ok (.getfield 42, 3) := by decide +kernel
theorem dX12_run_146 : decode cX12_run 146 = .ok (.iload 4, 2) := by decide +kernel
theorem dX12_run_148 : decode cX12_run 148 = .ok (.iload 5, 2) := by decide +kernel
theorem dX12_run_150 : decode cX12_run 150 = .ok (.iastore, 1) := by decide +kernel
theorem dX12_run_151 : decode cX12_run 151 = .ok (.aload_n 0, 1) := by decide +kernel
theorem dX12_run_152 : decode cX12_run 152 = .ok (.getfield 45, 3) := by decide +kernel
theorem dX12_run_155 : decode cX12_run 155 = .ok (.iload 4, 2) := by decide +kernel
theorem dX12_run_157 : decode cX12_run 157 = .ok (.iconst 0, 1) := by decide +kernel
theorem dX12_run_158 : decode cX12_run 158 = .ok (.iastore, 1) := by decide +kernel
theorem dX12_run_159 : decode cX12_run 159 = .ok (.iinc 4 1, 3) := by decide +kernel
theorem dX12_run_162 : decode cX12_run 162 = .ok (.iinc 6 1, 3) := by decide +kernel
theorem dX12_run_165 : decode cX12_run 165 = .ok (.goto (-39), 3) := by decide +kernel
theorem dX12_run_168 : decode cX12_run 168 = .ok (.iinc 5 1, 3) := by decide +kernel
theorem dX12_run_171 : decode cX12_run 171 = .ok (.goto (-54), 3) := by decide +kernel
theorem dX12_run_174 : decode cX12_run 174 = .ok (.aload_n 0, 1) := by decide +kernel
theorem dX12_run_175 : decode cX12_run 175 = .ok (.dup, 1) := by decide +kernel
theorem dX12_run_176 : decode cX12_run 176 = .ok (.getfield 139, 3) := by decide +kernel
theorem dX12_run_179 : decode cX12_run 179 = .ok (.iconst 1, 1) := by decide +kernel
theorem dX12_run_180 : decode cX12_run 180 = .ok (.iadd, 1) := by decide +kernel
theorem dX12_run_181 : decode cX12_run 181 = .ok (.putfield 139, 3) := by decide +kernel
theorem dX12_run_184 : decode cX12_run 184 = .ok (.aload_n 0, 1) := by decide +kernel
theorem dX12_run_185 : decode cX12_run 185 = .ok (.getfield 139, 3) := by decide +kernel
theorem dX12_run_188 : decode cX12_run 188 = .ok (.iconst 1, 1) := by decide +kernel
theorem dX12_run_189 : decode cX12_run 189 = .ok (.isub, 1) := by decide +kernel
theorem dX12_run_190 : decode cX12_run 190 = .ok (.ireturn, 1) := by decide +kernel
theorem dX12_at_0 : decode cX12_at 0 = .ok (.aload_n 0, 1) := by decide +kernel
theorem dX12_at_1 : decode cX12_at 1 = .ok (.iload_n 1, 1) := by decide +kernel
theorem dX12_at_2 : decode cX12_at 2 = .ok (.invokevirtual 157, 3) := by decide +kernel
theorem dX12_at_5 : decode cX12_at 5 = .ok (.ifCond .eq 30, 3) := by decide +kernel
theorem dX12_at_8 : decode cX12_at 8 = .ok (.iload_n 2, 1) := by decide +kernel
theorem dX12_at_9 : decode cX12_at 9 = .ok (.i2l, 1) := by decide +kernel
theorem dX12_at_10 : decode cX12_at 10 = .ok (.lconst 0, 1) := by decide +kernel
theorem dX12_at_11 : decode cX12_at 11 = .ok (.aload_n 0, 1) := by decide +kernel
theorem dX12_at_12 : decode cX12_at 12 = .ok (.iload_n 1, 1) := by decide +kernel
theorem dX12_at_13 : decode cX12_at 13 = .ok (.invokevirtual 161, 3) := by decide +kernel
theorem dX12_at_16 : decode cX12_at 16 = .ok (.iconst 1, 1) := by decide +kernel
theorem dX12_at_17 : decode cX12_at 17 = .ok (.isub, 1) := by decide +kernel
theorem dX12_at_18 : decode cX12_at 18 = .ok (.i2l, 1) := by decide +kernel
theorem dX12_at_19 : decode cX12_at 19 = .ok (.invokestatic 142, 3) := by decide +kernel
theorem dX12_at_22 : decode cX12_at 22 = .ok (.ifCond .eq 13, 3) := by decide +kernel
theorem dX12_at_25 : decode cX12_at 25 = .ok (.iload_n 3, 1) := by decide +kernel
theorem dX12_at_26 : decode cX12_at 26 = .ok (.i2l, 1) := by decide +kernel
theorem dX12_at_27 : decode cX12_at 27 = .ok (.lconst 0, 1) := by decide +kernel
theorem dX12_at_28 : decode cX12_at 28 = .ok (.lconst 1, 1) := by decide +kernel
theorem dX12_at_29 : decode cX12_at 29 = .ok (.invokestatic 142, 3) := by decide +kernel
theorem dX12_at_32 : decode cX12_at 32 = .ok (.ifCond .ne 6, 3) := by decide +kernel
theorem dX12_at_35 : decode cX12_at 35 = .ok (.bipush (-2), 2) := by decide +kernel
theorem dX12_at_37 : decode cX12_at 37 = .ok (.ireturn, 1) := by decide +kernel
theorem dX12_at_38 : decode cX12_at 38 = .ok (.iload_n 3, 1) := by decide +kernel
theorem dX12_at_39 : decode cX12_at 39 = .ok (.ifCond .ne 17, 3) := by decide +kernel
theorem dX12_at_42 : decode cX12_at 42 = .ok (.aload_n 0, 1) := by decide +kernel
theorem dX12_at_43 : decode cX12_at 43 = .ok (.getfield 42, 3) := by decide +kernel
theorem dX12_at_46 : decode cX12_at 46 = .ok (.bipush 25, 2) := by decide +kernel
theorem dX12_at_48 : decode cX12_at 48 = .ok (.iload_n 1, 1) := by decide +kernel
theorem dX12_at_49 : decode cX12_at 49 = .ok (.imul, 1) := by decide +kernel
theorem dX12_at_50 : decode cX12_at 50 = .ok (.iload_n 2, 1) := by decide +kernel
theorem dX12_at_51 : decode cX12_at 51 = .ok (.iadd, 1) := by decide +kernel
theorem dX12_at_52 : decode cX12_at 52 = .ok (.iaload, 1) := by decide +kernel
theorem dX12_at_53 : decode cX12_at 53 = .ok (.goto 14, 3) := by decide +kernel
theorem dX12_at_56 : decode cX12_at 56 = .ok (.aload_n 0, 1) := by decide +kernel
theorem dX12_at_57 : decode cX12_at 57 = .ok (.getfield 45, 3) := by decide +kernel
theorem dX12_at_60 : decode cX12_at 60 = .ok (.bipush 25, 2) := by decide +kernel
theorem dX12_at_62 : decode cX12_at 62 = .ok (.iload_n 1, 1) := by decide +kernel
theorem dX12_at_63 : decode cX12_at 63 = .ok (.imul, 1) := by decide +kernel
theorem dX12_at_64 : decode cX12_at 64 = .ok (.iload_n 2, 1) := by decide +kernel
theorem dX12_at_65 : decode cX12_at 65 = .ok (.iadd, 1) := by decide +kernel
theorem dX12_at_66 : decode cX12_at 66 = .ok (.iaload, 1) := by decide +kernel
theorem dX12_at_67 : decode cX12_at 67 = .ok (.ireturn, 1) := by decide +kernel
theorem dX12_guess_0 : decode cX12_guess 0 = .ok (.aload_n 0, 1) := by decide +kernel
theorem dX12_guess_1 : decode cX12_guess 1 = .ok (.iload_n 1, 1) := by decide +kernel
theorem dX12_guess_2 : decode cX12_guess 2 = .ok (.invokevirtual 157, 3) := by decide +kernel
theorem dX12_guess_5 : decode cX12_guess 5 = .ok (.ifCond .eq 27, 3) := by decide +kernel
theorem dX12_guess_8 : decode cX12_guess 8 = .ok (.iload_n 2, 1) := by decide +kernel
theorem dX12_guess_9 : decode cX12_guess 9 = .ok (.invokestatic 165, 3) := by decide +kernel
theorem dX12_guess_12 : decode cX12_guess 12 = .ok (.ifCond .eq 20, 3) := by decide +kernel
theorem dX12_guess_15 : decode cX12_guess 15 = .ok (.iload_n 3, 1) := by decide +kernel
theorem dX12_guess_16 : decode cX12_guess 16 = .ok (.i2l, 1) := by decide +kernel
theorem dX12_guess_17 : decode cX12_guess 17 = .ok (.lconst 0, 1) := by decide +kernel
theorem dX12_guess_18 : decode cX12_guess 18 = .ok (.aload_n 0, 1) := by decide +kernel
theorem dX12_guess_19 : decode cX12_guess 19 = .ok (.iload_n 1, 1) := by decide +kernel
theorem dX12_guess_20 : decode cX12_guess 20 = .ok (.invokevirtual 161, 3) := by decide +kernel
theorem dX12_guess_23 : decode cX12_guess 23 = .ok (.iconst 1, 1) := by decide +kernel
theorem dX12_guess_24 : decode cX12_guess 24 = .ok (.isub, 1) := by decide +kernel
theorem dX12_guess_25 : decode cX12_guess 25 = .ok (.i2l, 1) := by decide +kernel
theorem dX12_guess_26 : decode cX12_guess 26 = .ok (.invokestatic 142, 3) := by decide +kernel
theorem dX12_guess_29 : decode cX12_guess 29 = .ok (.ifCond .ne 6, 3) := by decide +kernel
theorem dX12_guess_32 : decode cX12_guess 32 = .ok (.bipush (-2), 2) := by decide +kernel
theorem dX12_guess_34 : decode cX12_guess 34 = .ok (.ireturn, 1) := by decide +kernel
theorem dX12_guess_35 : decode cX12_guess 35 = .ok (.aload_n 0, 1) := by decide +kernel
theorem dX12_guess_36 : decode cX12_guess 36 = .ok (.getfield 105, 3) := by decide +kernel
theorem dX12_guess_39 : decode cX12_guess 39 = .ok (.iload_n 2, 1) := by decide +kernel
theorem dX12_guess_40 : decode cX12_guess 40 = .ok (.baload, 1) := by decide +kernel
theorem dX12_guess_41 : decode cX12_guess 41 = .ok (.ifCond .ne 6, 3) := by decide +kernel
theorem dX12_guess_44 : decode cX12_guess 44 = .ok (.bipush (-11), 2) := by decide +kernel
theorem dX12_guess_46 : decode cX12_guess 46 = .ok (.ireturn, 1) := by decide +kernel
theorem dX12_guess_47 : decode cX12_guess 47 = .ok (.iconst 0, 1) := by decide +kernel
theorem dX12_guess_48 : decode cX12_guess 48 = .ok (.istore 4, 2) := by decide +kernel
theorem dX12_guess_50 : decode cX12_guess 50 = .ok (.iload 4, 2) := by decide +kernel
theorem dX12_guess_52 : decode cX12_guess 52 = .ok (.aload_n 0, 1) := by decide +kernel
theorem dX12_guess_53 : decode cX12_guess 53 = .ok (.getfield 112, 3) := by decide +kernel
theorem dX12_guess_56 : decode cX12_guess 56 = .ok (.iload_n 2, 1) := by decide +kernel
theorem dX12_guess_57 : decode cX12_guess 57 = .ok (.iaload, 1) := by decide +kernel
theorem dX12_guess_58 : decode cX12_guess 58 = .ok (.if_icmp .ge 65, 3) := by decide +kernel
theorem dX12_guess_61 : decode cX12_guess 61 = .ok (.iload_n 3, 1) := by decide +kernel
theorem dX12_guess_62 : decode cX12_guess 62 = .ok (.iload 4, 2) := by decide +kernel
theorem dX12_guess_64 : decode cX12_guess 64 = .ok (.iadd, 1) := by decide +kernel
theorem dX12_guess_65 : decode cX12_guess 65 = .ok (.aload_n 0, 1) := by decide +kernel
theorem dX12_guess_66 : decode cX12_guess 66 = .ok (.iload_n 1, 1) := by decide +kernel
theorem dX12_guess_67 : decode cX12_guess 67 = .ok (.invokevirtual 161, 3) := by decide +kernel
theorem dX12_guess_70 : decode cX12_guess 70 = .ok (.if_icmp .ge 53, 3) := by decide +kernel
theorem dX12_guess_73 : decode cX12_guess 73 = .ok (.aload_n 0, 1) := by decide +kernel
theorem dX12_guess_74 : decode cX12_guess 74 = .ok (.getfield 115, 3) := by decide +kernel
theorem dX12_guess_77 : decode cX12_guess 77 = .ok (.bipush 40, 2) := by decide +kernel
theorem dX12_guess_79 : decode cX12_guess 79 = .ok (.iload_n 2, 1) := by decide +kernel
theorem dX12_guess_80 : decode cX12_guess 80 = .ok (.imul, 1) := by decide +kernel
theorem dX12_guess_81 : decode cX12_guess 81 = .ok (.iload 4, 2) := by decide +kernel
theorem dX12_guess_83 : decode cX12_guess 83 = .ok (.iadd, 1) := by decide +kernel
theorem dX12_guess_84 : decode cX12_guess 84 = .ok (.iaload, 1) := by decide +kernel
theorem dX12_guess_85 : decode cX12_guess 85 = .ok (.invokestatic 168, 3) := by decide +kernel
theorem dX12_guess_88 : decode cX12_guess 88 = .ok (.ifCond .eq 35, 3) := by decide +kernel
theorem dX12_guess_91 : decode cX12_guess 91 = .ok (.aload_n 0, 1) := by decide +kernel
theorem dX12_guess_92 : decode cX12_guess 92 = .ok (.getfield 45, 3) := by decide +kernel
theorem dX12_guess_95 : decode cX12_guess 95 = .ok (.bipush 25, 2) := by decide +kernel
theorem dX12_guess_97 : decode cX12_guess 97 = .ok (.iload_n 1, 1) := by decide +kernel
theorem dX12_guess_98 : decode cX12_guess 98 = .ok (.imul, 1) := by decide +kernel
theorem dX12_guess_99 : decode cX12_guess 99 = .ok (.iload_n 3, 1) := by decide +kernel
theorem dX12_guess_100 : decode cX12_guess 100 = .ok (.iadd, 1) := by decide +kernel
theorem dX12_guess_101 : decode cX12_guess 101 = .ok (.iload 4, 2) := by decide +kernel
theorem dX12_guess_103 : decode cX12_guess 103 = .ok (.iadd, 1) := by decide +kernel
theorem dX12_guess_104 : decode cX12_guess 104 = .ok (.aload_n 0, 1) := by decide +kernel
theorem dX12_guess_105 : decode cX12_guess 105 = .ok (.getfield 115, 3) := by decide +kernel
theorem dX12_guess_108 : decode cX12_guess 108 = .ok (.bipush 40, 2) := by decide +kernel
theorem dX12_guess_110 : decode cX12_guess 110 = .ok (.iload_n 2, 1) := by decide +kernel
theorem dX12_guess_111 : decode cX12_guess 111 = .ok (.imul, 1) := by decide +kernel
theorem dX12_guess_112 : decode cX12_guess 112 = .ok (.iload 4, 2) := by decide +kernel
theorem dX12_guess_114 : decode cX12_guess 114 = .ok (.iadd, 1) := by decide +kernel
theorem dX12_guess_115 : decode cX12_guess 115 = .ok (.iaload, 1) := by decide +kernel
theorem dX12_guess_116 : decode cX12_guess 116 = .ok (.iastore, 1) := by decide +kernel
theorem dX12_guess_117 : decode cX12_guess 117 = .ok (.iinc 4 1, 3) := by decide +kernel
theorem dX12_guess_120 : decode cX12_guess 120 = .ok (.goto (-70), 3) := by decide +kernel
theorem dX12_guess_123 : decode cX12_guess 123 = .ok (.iload 4, 2) := by decide +kernel
theorem dX12_guess_125 : decode cX12_guess 125 = .ok (.ireturn, 1) := by decide +kernel
theorem dX12_isHit_0 : decode cX12_isHit 0 = .ok (.aload_n 0, 1) := by decide +kernel
theorem dX12_isHit_1 : decode cX12_isHit 1 = .ok (.getfield 42, 3) := by decide +kernel
theorem dX12_isHit_4 : decode cX12_isHit 4 = .ok (.bipush 25, 2) := by decide +kernel
theorem dX12_isHit_6 : decode cX12_isHit 6 = .ok (.iload_n 1, 1) := by decide +kernel
theorem dX12_isHit_7 : decode cX12_isHit 7 = .ok (.imul, 1) := by decide +kernel
theorem dX12_isHit_8 : decode cX12_isHit 8 = .ok (.iload_n 2, 1) := by decide +kernel
theorem dX12_isHit_9 : decode cX12_isHit 9 = .ok (.iadd, 1) := by decide +kernel
theorem dX12_isHit_10 : decode cX12_isHit 10 = .ok (.iaload, 1) := by decide +kernel
theorem dX12_isHit_11 : decode cX12_isHit 11 = .ok (.aload_n 0, 1) := by decide +kernel
theorem dX12_isHit_12 : decode cX12_isHit 12 = .ok (.getfield 45, 3) := by decide +kernel
theorem dX12_isHit_15 : decode cX12_isHit 15 = .ok (.bipush 25, 2) := by decide +kernel
theorem dX12_isHit_17 : decode cX12_isHit 17 = .ok (.iload_n 1, 1) := by decide +kernel
theorem dX12_isHit_18 : decode cX12_isHit 18 = .ok (.imul, 1) := by decide +kernel
theorem dX12_isHit_19 : decode cX12_isHit 19 = .ok (.iload_n 2, 1) := by decide +kernel
theorem dX12_isHit_20 : decode cX12_isHit 20 = .ok (.iadd, 1) := by decide +kernel
theorem dX12_isHit_21 : decode cX12_isHit 21 = .ok (.iaload, 1) := by decide +kernel
theorem dX12_isHit_22 : decode cX12_isHit 22 = .ok (.if_icmp .ne 7, 3) := by decide +kernel
theorem dX12_isHit_25 : decode cX12_isHit 25 = .ok (.iconst 1, 1) := by decide +kernel
theorem dX12_isHit_26 : decode cX12_isHit 26 = .ok (.goto 4, 3) := by decide +kernel
theorem dX12_isHit_29 : decode cX12_isHit 29 = .ok (.iconst 0, 1) := by decide +kernel
theorem dX12_isHit_30 : decode cX12_isHit 30 = .ok (.ireturn, 1) := by decide +kernel
theorem dX12_slip_0 : decode cX12_slip 0 = .ok (.aload_n 0, 1) := by decide +kernel
theorem dX12_slip_1 : decode cX12_slip 1 = .ok (.iload_n 1, 1) := by decide +kernel
theorem dX12_slip_2 : decode cX12_slip 2 = .ok (.invokevirtual 157, 3) := by decide +kernel
theorem dX12_slip_5 : decode cX12_slip 5 = .ok (.ifCond .eq 27, 3) := by decide +kernel
theorem dX12_slip_8 : decode cX12_slip 8 = .ok (.iload_n 2, 1) := by decide +kernel
theorem dX12_slip_9 : decode cX12_slip 9 = .ok (.i2l, 1) := by decide +kernel
theorem dX12_slip_10 : decode cX12_slip 10 = .ok (.lconst 0, 1) := by decide +kernel
theorem dX12_slip_11 : decode cX12_slip 11 = .ok (.aload_n 0, 1) := by decide +kernel
theorem dX12_slip_12 : decode cX12_slip 12 = .ok (.iload_n 1, 1) := by decide +kernel
theorem dX12_slip_13 : decode cX12_slip 13 = .ok (.invokevirtual 161, 3) := by decide +kernel
theorem dX12_slip_16 : decode cX12_slip 16 = .ok (.iconst 1, 1) := by decide +kernel
theorem dX12_slip_17 : decode cX12_slip 17 = .ok (.isub, 1) := by decide +kernel
theorem dX12_slip_18 : decode cX12_slip 18 = .ok (.i2l, 1) := by decide +kernel
theorem dX12_slip_19 : decode cX12_slip 19 = .ok (.invokestatic 142, 3) := by decide +kernel
theorem dX12_slip_22 : decode cX12_slip 22 = .ok (.ifCond .eq 10, 3) := by decide +kernel
theorem dX12_slip_25 : decode cX12_slip 25 = .ok (.iload_n 3, 1) := by decide +kernel
theorem dX12_slip_26 : decode cX12_slip 26 = .ok (.invokestatic 168, 3) := by decide +kernel
theorem dX12_slip_29 : decode cX12_slip 29 = .ok (.ifCond .ne 6, 3) := by decide +kernel
theorem dX12_slip_32 : decode cX12_slip 32 = .ok (.bipush (-2), 2) := by decide +kernel
theorem dX12_slip_34 : decode cX12_slip 34 = .ok (.ireturn, 1) := by decide +kernel
theorem dX12_slip_35 : decode cX12_slip 35 = .ok (.aload_n 0, 1) := by decide +kernel
theorem dX12_slip_36 : decode cX12_slip 36 = .ok (.getfield 45, 3) := by decide +kernel
theorem dX12_slip_39 : decode cX12_slip 39 = .ok (.bipush 25, 2) := by decide +kernel
theorem dX12_slip_41 : decode cX12_slip 41 = .ok (.iload_n 1, 1) := by decide +kernel
theorem dX12_slip_42 : decode cX12_slip 42 = .ok (.imul, 1) := by decide +kernel
theorem dX12_slip_43 : decode cX12_slip 43 = .ok (.iload_n 2, 1) := by decide +kernel
theorem dX12_slip_44 : decode cX12_slip 44 = .ok (.iadd, 1) := by decide +kernel
theorem dX12_slip_45 : decode cX12_slip 45 = .ok (.iaload, 1) := by decide +kernel
theorem dX12_slip_46 : decode cX12_slip 46 = .ok (.istore 4, 2) := by decide +kernel
theorem dX12_slip_48 : decode cX12_slip 48 = .ok (.aload_n 0, 1) := by decide +kernel
theorem dX12_slip_49 : decode cX12_slip 49 = .ok (.getfield 51, 3) := by decide +kernel
theorem dX12_slip_52 : decode cX12_slip 52 = .ok (.iload_n 1, 1) := by decide +kernel
theorem dX12_slip_53 : decode cX12_slip 53 = .ok (.dup2, 1) := by decide +kernel
theorem dX12_slip_54 : decode cX12_slip 54 = .ok (.iaload, 1) := by decide +kernel
theorem dX12_slip_55 : decode cX12_slip 55 = .ok (.aload_n 0, 1) := by decide +kernel
theorem dX12_slip_56 : decode cX12_slip 56 = .ok (.iload_n 1, 1) := by decide +kernel
theorem dX12_slip_57 : decode cX12_slip 57 = .ok (.iload_n 2, 1) := by decide +kernel
theorem dX12_slip_58 : decode cX12_slip 58 = .ok (.invokevirtual 171, 3) := by decide +kernel
theorem dX12_slip_61 : decode cX12_slip 61 = .ok (.ifCond .eq 7, 3) := by decide +kernel
theorem dX12_slip_64 : decode cX12_slip 64 = .ok (.iconst 1, 1) := by decide +kernel
theorem dX12_slip_65 : decode cX12_slip 65 = .ok (.goto 4, 3) := by decide +kernel
theorem dX12_slip_68 : decode cX12_slip 68 = .ok (.iconst 0, 1) := by decide +kernel
theorem dX12_slip_69 : decode cX12_slip 69 = .ok (.isub, 1) := by decide +kernel
theorem dX12_slip_70 : decode cX12_slip 70 = .ok (.iastore, 1) := by decide +kernel
theorem dX12_slip_71 : decode cX12_slip 71 = .ok (.aload_n 0, 1) := by decide +kernel
theorem dX12_slip_72 : decode cX12_slip 72 = .ok (.getfield 45, 3) := by decide +kernel
theorem dX12_slip_75 : decode cX12_slip 75 = .ok (.bipush 25, 2) := by decide +kernel
theorem dX12_slip_77 : decode cX12_slip 77 = .ok (.iload_n 1, 1) := by decide +kernel
theorem dX12_slip_78 : decode cX12_slip 78 = .ok (.imul, 1) := by decide +kernel
theorem dX12_slip_79 : decode cX12_slip 79 = .ok (.iload_n 2, 1) := by decide +kernel
theorem dX12_slip_80 : decode cX12_slip 80 = .ok (.iadd, 1) := by decide +kernel
theorem dX12_slip_81 : decode cX12_slip 81 = .ok (.iload_n 3, 1) := by decide +kernel
theorem dX12_slip_82 : decode cX12_slip 82 = .ok (.iastore, 1) := by decide +kernel
theorem dX12_slip_83 : decode cX12_slip 83 = .ok (.aload_n 0, 1) := by decide +kernel
theorem dX12_slip_84 : decode cX12_slip 84 = .ok (.getfield 51, 3) := by decide +kernel
theorem dX12_slip_87 : decode cX12_slip 87 = .ok (.iload_n 1, 1) := by decide +kernel
theorem dX12_slip_88 : decode cX12_slip 88 = .ok (.dup2, 1) := by decide +kernel
theorem dX12_slip_89 : decode cX12_slip 89 = .ok (.iaload, 1) := by decide +kernel
theorem dX12_slip_90 : decode cX12_slip 90 = .ok (.aload_n 0, 1) := by decide +kernel
theorem dX12_slip_91 : decode cX12_slip 91 = .ok (.iload_n 1, 1) := by decide +kernel
theorem dX12_slip_92 : decode cX12_slip 92 = .ok (.iload_n 2, 1) := by decide +kernel
theorem dX12_slip_93 : decode cX12_slip 93 = .ok (.invokevirtual 171, 3) := by decide +kernel
theorem dX12_slip_96 : decode cX12_slip 96 = .ok (.ifCond .eq 7, 3) := by decide +kernel
theorem dX12_slip_99 : decode cX12_slip 99 = .ok (.iconst 1, 1) := by decide +kernel
theorem dX12_slip_100 : decode cX12_slip 100 = .ok (.goto 4, 3) := by decide +kernel
theorem dX12_slip_103 : decode cX12_slip 103 = .ok (.iconst 0, 1) := by decide +kernel
theorem dX12_slip_104 : decode cX12_slip 104 = .ok (.iadd, 1) := by decide +kernel
theorem dX12_slip_105 : decode cX12_slip 105 = .ok (.iastore, 1) := by decide +kernel
theorem dX12_slip_106 : decode cX12_slip 106 = .ok (.aload_n 0, 1) := by decide +kernel
theorem dX12_slip_107 : decode cX12_slip 107 = .ok (.getfield 48, 3) := by decide +kernel
theorem dX12_slip_110 : decode cX12_slip 110 = .ok (.iload_n 1, 1) := by decide +kernel
theorem dX12_slip_111 : decode cX12_slip 111 = .ok (.dup2, 1) := by decide +kernel
theorem dX12_slip_112 : decode cX12_slip 112 = .ok (.iaload, 1) := by decide +kernel
theorem dX12_slip_113 : decode cX12_slip 113 = .ok (.iconst 1, 1) := by decide +kernel
theorem dX12_slip_114 : decode cX12_slip 114 = .ok (.iadd, 1) := by decide +kernel
theorem dX12_slip_115 : decode cX12_slip 115 = .ok (.iastore, 1) := by decide +kernel
theorem dX12_slip_116 : decode cX12_slip 116 = .ok (.iload 4, 2) := by decide +kernel
theorem dX12_slip_118 : decode cX12_slip 118 = .ok (.ireturn, 1) := by decide +kernel
theorem dX12_cut_0 : decode cX12_cut 0 = .ok (.aload_n 0, 1) := by decide +kernel
theorem dX12_cut_1 : decode cX12_cut 1 = .ok (.iload_n 1, 1) := by decide +kernel
theorem dX12_cut_2 : decode cX12_cut 2 = .ok (.invokevirtual 157, 3) := by decide +kernel
theorem dX12_cut_5 : decode cX12_cut 5 = .ok (.ifCond .eq 18, 3) := by decide +kernel
theorem dX12_cut_8 : decode cX12_cut 8 = .ok (.iload_n 2, 1) := by decide +kernel
theorem dX12_cut_9 : decode cX12_cut 9 = .ok (.i2l, 1) := by decide +kernel
theorem dX12_cut_10 : decode cX12_cut 10 = .ok (.lconst 0, 1) := by decide +kernel
theorem dX12_cut_11 : decode cX12_cut 11 = .ok (.aload_n 0, 1) := by decide +kernel
theorem dX12_cut_12 : decode cX12_cut 12 = .ok (.iload_n 1, 1) := by decide +kernel
theorem dX12_cut_13 : decode cX12_cut 13 = .ok (.invokevirtual 161, 3) := by decide +kernel
theorem dX12_cut_16 : decode cX12_cut 16 = .ok (.i2l, 1) := by decide +kernel
theorem dX12_cut_17 : decode cX12_cut 17 = .ok (.invokestatic 142, 3) := by decide +kernel
theorem dX12_cut_20 : decode cX12_cut 20 = .ok (.ifCond .ne 6, 3) := by decide +kernel
theorem dX12_cut_23 : decode cX12_cut 23 = .ok (.bipush (-2), 2) := by decide +kernel
theorem dX12_cut_25 : decode cX12_cut 25 = .ok (.ireturn, 1) := by decide +kernel
theorem dX12_cut_26 : decode cX12_cut 26 = .ok (.aload_n 0, 1) := by decide +kernel
theorem dX12_cut_27 : decode cX12_cut 27 = .ok (.iload_n 1, 1) := by decide +kernel
theorem dX12_cut_28 : decode cX12_cut 28 = .ok (.invokevirtual 161, 3) := by decide +kernel
theorem dX12_cut_31 : decode cX12_cut 31 = .ok (.istore_n 3, 1) := by decide +kernel
theorem dX12_cut_32 : decode cX12_cut 32 = .ok (.iconst 0, 1) := by decide +kernel
theorem dX12_cut_33 : decode cX12_cut 33 = .ok (.istore 4, 2) := by decide +kernel
theorem dX12_cut_35 : decode cX12_cut 35 = .ok (.iload 4, 2) := by decide +kernel
theorem dX12_cut_37 : decode cX12_cut 37 = .ok (.iload_n 3, 1) := by decide +kernel
theorem dX12_cut_38 : decode cX12_cut 38 = .ok (.if_icmp .ge 32, 3) := by decide +kernel
theorem dX12_cut_41 : decode cX12_cut 41 = .ok (.aload_n 0, 1) := by decide +kernel
theorem dX12_cut_42 : decode cX12_cut 42 = .ok (.getfield 54, 3) := by decide +kernel
theorem dX12_cut_45 : decode cX12_cut 45 = .ok (.iload 4, 2) := by decide +kernel
theorem dX12_cut_47 : decode cX12_cut 47 = .ok (.aload_n 0, 1) := by decide +kernel
theorem dX12_cut_48 : decode cX12_cut 48 = .ok (.getfield 42, 3) := by decide +kernel
theorem dX12_cut_51 : decode cX12_cut 51 = .ok (.bipush 25, 2) := by decide +kernel
theorem dX12_cut_53 : decode cX12_cut 53 = .ok (.iload_n 1, 1) := by decide +kernel
theorem dX12_cut_54 : decode cX12_cut 54 = .ok (.imul, 1) := by decide +kernel
theorem dX12_cut_55 : decode cX12_cut 55 = .ok (.iload 4, 2) := by decide +kernel
theorem dX12_cut_57 : decode cX12_cut 57 = .ok (.iload_n 2, 1) := by decide +kernel
theorem dX12_cut_58 : decode cX12_cut 58 = .ok (.iadd, 1) := by decide +kernel
theorem dX12_cut_59 : decode cX12_cut 59 = .ok (.iload_n 3, 1) := by decide +kernel
theorem dX12_cut_60 : decode cX12_cut 60 = .ok (.irem, 1) := by decide +kernel
theorem dX12_cut_61 : decode cX12_cut 61 = .ok (.iadd, 1) := by decide +kernel
theorem dX12_cut_62 : decode cX12_cut 62 = .ok (.iaload, 1) := by decide +kernel
theorem dX12_cut_63 : decode cX12_cut 63 = .ok (.iastore, 1) := by decide +kernel
theorem dX12_cut_64 : decode cX12_cut 64 = .ok (.iinc 4 1, 3) := by decide +kernel
theorem dX12_cut_67 : decode cX12_cut 67 = .ok (.goto (-32), 3) := by decide +kernel
theorem dX12_cut_70 : decode cX12_cut 70 = .ok (.iconst 0, 1) := by decide +kernel
theorem dX12_cut_71 : decode cX12_cut 71 = .ok (.istore 4, 2) := by decide +kernel
theorem dX12_cut_73 : decode cX12_cut 73 = .ok (.iload 4, 2) := by decide +kernel
theorem dX12_cut_75 : decode cX12_cut 75 = .ok (.iload_n 3, 1) := by decide +kernel
theorem dX12_cut_76 : decode cX12_cut 76 = .ok (.if_icmp .ge 28, 3) := by decide +kernel
theorem dX12_cut_79 : decode cX12_cut 79 = .ok (.aload_n 0, 1) := by decide +kernel
theorem dX12_cut_80 : decode cX12_cut 80 = .ok (.getfield 42, 3) := by decide +kernel
theorem dX12_cut_83 : decode cX12_cut 83 = .ok (.bipush 25, 2) := by decide +kernel
theorem dX12_cut_85 : decode cX12_cut 85 = .ok (.iload_n 1, 1) := by decide +kernel
theorem dX12_cut_86 : decode cX12_cut 86 = .ok (.imul, 1) := by decide +kernel
theorem dX12_cut_87 : decode cX12_cut 87 = .ok (.iload 4, 2) := by decide +kernel
theorem dX12_cut_89 : decode cX12_cut 89 = .ok (.iadd, 1) := by decide +kernel
theorem dX12_cut_90 : decode cX12_cut 90 = .ok (.aload_n 0, 1) := by decide +kernel
theorem dX12_cut_91 : decode cX12_cut 91 = .ok (.getfield 54, 3) := by decide +kernel
theorem dX12_cut_94 : decode cX12_cut 94 = .ok (.iload 4, 2) := by decide +kernel
theorem dX12_cut_96 : decode cX12_cut 96 = .ok (.iaload, 1) := by decide +kernel
theorem dX12_cut_97 : decode cX12_cut 97 = .ok (.iastore, 1) := by decide +kernel
theorem dX12_cut_98 : decode cX12_cut 98 = .ok (.iinc 4 1, 3) := by decide +kernel
theorem dX12_cut_101 : decode cX12_cut 101 = .ok (.goto (-28), 3) := by decide +kernel
theorem dX12_cut_104 : decode cX12_cut 104 = .ok (.iconst 1, 1) := by decide +kernel
theorem dX12_cut_105 : decode cX12_cut 105 = .ok (.ireturn, 1) := by decide +kernel
theorem dX12_mixes_0 : decode cX12_mixes 0 = .ok (.iload_n 2, 1) := by decide +kernel
theorem dX12_mixes_1 : decode cX12_mixes 1 = .ok (.i2l, 1) := by decide +kernel
theorem dX12_mixes_2 : decode cX12_mixes 2 = .ok (.lconst 1, 1) := by decide +kernel
theorem dX12_mixes_3 : decode cX12_mixes 3 = .ok (.ladd, 1) := by decide +kernel
theorem dX12_mixes_4 : decode cX12_mixes 4 = .ok (.lstore_n 3, 1) := by decide +kernel
theorem dX12_mixes_5 : decode cX12_mixes 5 = .ok (.aload_n 0, 1) := by decide +kernel
theorem dX12_mixes_6 : decode cX12_mixes 6 = .ok (.iload_n 1, 1) := by decide +kernel
theorem dX12_mixes_7 : decode cX12_mixes 7 = .ok (.invokevirtual 161, 3) := by decide +kernel
theorem dX12_mixes_10 : decode cX12_mixes 10 = .ok (.iconst 1, 1) := by decide +kernel
theorem dX12_mixes_11 : decode cX12_mixes 11 = .ok (.isub, 1) := by decide +kernel
theorem dX12_mixes_12 : decode cX12_mixes 12 = .ok (.istore 5, 2) := by decide +kernel
theorem dX12_mixes_14 : decode cX12_mixes 14 = .ok (.iload 5, 2) := by decide +kernel
theorem dX12_mixes_16 : decode cX12_mixes 16 = .ok (.ifCond .le 76, 3) := by decide +kernel
theorem dX12_mixes_19 : decode cX12_mixes 19 = .ok (.lload_n 3, 1) := by decide +kernel
theorem dX12_mixes_20 : decode cX12_mixes 20 = .ok (.ldc2_w 175, 3) := by decide +kernel
theorem dX12_mixes_23 : decode cX12_mixes 23 = .ok (.lmul, 1) := by decide +kernel
theorem dX12_mixes_24 : decode cX12_mixes 24 = .ok (.ldc2_w 177, 3) := by decide +kernel
theorem dX12_mixes_27 : decode cX12_mixes 27 = .ok (.lrem, 1) := by decide +kernel
theorem dX12_mixes_28 : decode cX12_mixes 28 = .ok (.lstore_n 3, 1) := by decide +kernel
theorem dX12_mixes_29 : decode cX12_mixes 29 = .ok (.bipush 25, 2) := by decide +kernel
theorem dX12_mixes_31 : decode cX12_mixes 31 = .ok (.iload_n 1, 1) := by decide +kernel
theorem dX12_mixes_32 : decode cX12_mixes 32 = .ok (.imul, 1) := by decide +kernel
theorem dX12_mixes_33 : decode cX12_mixes 33 = .ok (.lload_n 3, 1) := by decide +kernel
theorem dX12_mixes_34 : decode cX12_mixes 34 = .ok (.iload 5, 2) := by decide +kernel
theorem dX12_mixes_36 : decode cX12_mixes 36 = .ok (.iconst 1, 1) := by decide +kernel
theorem dX12_mixes_37 : decode cX12_mixes 37 = .ok (.iadd, 1) := by decide +kernel
theorem dX12_mixes_38 : decode cX12_mixes 38 = .ok (.i2l, 1) := by decide +kernel
theorem dX12_mixes_39 : decode cX12_mixes 39 = .ok (.lrem, 1) := by decide +kernel
theorem dX12_mixes_40 : decode cX12_mixes 40 = .ok (.l2i, 1) := by decide +kernel
theorem dX12_mixes_41 : decode cX12_mixes 41 = .ok (.iadd, 1) := by decide +kernel
theorem dX12_mixes_42 : decode cX12_mixes 42 = .ok (.istore 6, 2) := by decide +kernel
theorem dX12_mixes_44 : decode cX12_mixes 44 = .ok (.aload_n 0, 1) := by decide +kernel
theorem dX12_mixes_45 : decode cX12_mixes 45 = .ok (.getfield 42, 3) := by decide +kernel
theorem dX12_mixes_48 : decode cX12_mixes 48 = .ok (.bipush 25, 2) := by decide +kernel
theorem dX12_mixes_50 : decode cX12_mixes 50 = .ok (.iload_n 1, 1) := by decide +kernel
theorem dX12_mixes_51 : decode cX12_mixes 51 = .ok (.imul, 1) := by decide +kernel
theorem dX12_mixes_52 : decode cX12_mixes 52 = .ok (.iload 5, 2) := by decide +kernel
theorem dX12_mixes_54 : decode cX12_mixes 54 = .ok (.iadd, 1) := by decide +kernel
theorem dX12_mixes_55 : decode cX12_mixes 55 = .ok (.iaload, 1) := by decide +kernel
theorem dX12_mixes_56 : decode cX12_mixes 56 = .ok (.istore 7, 2) := by decide +kernel
theorem dX12_mixes_58 : decode cX12_mixes 58 = .ok (.aload_n 0, 1) := by decide +kernel
theorem dX12_mixes_59 : decode cX12_mixes 59 = .ok (.getfield 42, 3) := by decide +kernel
theorem dX12_mixes_62 : decode cX12_mixes 62 = .ok (.bipush 25, 2) := by decide +kernel
theorem dX12_mixes_64 : decode cX12_mixes 64 = .ok (.iload_n 1, 1) := by decide +kernel
theorem dX12_mixes_65 : decode cX12_mixes 65 = .ok (.imul, 1) := by decide +kernel
theorem dX12_mixes_66 : decode cX12_mixes 66 = .ok (.iload 5, 2) := by decide +kernel
theorem dX12_mixes_68 : decode cX12_mixes 68 = .ok (.iadd, 1) := by decide +kernel
theorem dX12_mixes_69 : decode cX12_mixes 69 = .ok (.aload_n 0, 1) := by decide +kernel
theorem dX12_mixes_70 : decode cX12_mixes 70 = .ok (.getfield 42, 3) := by decide +kernel
theorem dX12_mixes_73 : decode cX12_mixes 73 = .ok (.iload 6, 2) := by decide +kernel
theorem dX12_mixes_75 : decode cX12_mixes 75 = .ok (.iaload, 1) := by decide +kernel
theorem dX12_mixes_76 : decode cX12_mixes 76 = .ok (.iastore, 1) := by decide +kernel
theorem dX12_mixes_77 : decode cX12_mixes 77 = .ok (.aload_n 0, 1) := by decide +kernel
theorem dX12_mixes_78 : decode cX12_mixes 78 = .ok (.getfield 42, 3) := by decide +kernel
theorem dX12_mixes_81 : decode cX12_mixes 81 = .ok (.iload 6, 2) := by decide +kernel
theorem dX12_mixes_83 : decode cX12_mixes 83 = .ok (.iload 7, 2) := by decide +kernel
theorem dX12_mixes_85 : decode cX12_mixes 85 = .ok (.iastore, 1) := by decide +kernel
theorem dX12_mixes_86 : decode cX12_mixes 86 = .ok (.iinc 5 (-1), 3) := by decide +kernel
theorem dX12_mixes_89 : decode cX12_mixes 89 = .ok (.goto (-75), 3) := by decide +kernel
theorem dX12_mixes_92 : decode cX12_mixes 92 = .ok (.return_, 1) := by decide +kernel
theorem dX12_shuffle_0 : decode cX12_shuffle 0 = .ok (.aload_n 0, 1) := by decide +kernel
theorem dX12_shuffle_1 : decode cX12_shuffle 1 = .ok (.iload_n 1, 1) := by decide +kernel
theorem dX12_shuffle_2 : decode cX12_shuffle 2 = .ok (.invokevirtual 157, 3) := by decide +kernel
theorem dX12_shuffle_5 : decode cX12_shuffle 5 = .ok (.ifCond .eq 15, 3) := by decide +kernel
theorem dX12_shuffle_8 : decode cX12_shuffle 8 = .ok (.iload_n 2, 1) := by decide +kernel
theorem dX12_shuffle_9 : decode cX12_shuffle 9 = .ok (.i2l, 1) := by decide +kernel
theorem dX12_shuffle_10 : decode cX12_shuffle 10 = .ok (.lconst 0, 1) := by decide +kernel
theorem dX12_shuffle_11 : decode cX12_shuffle 11 = .ok (.ldc2_w 148, 3) := by decide +kernel
theorem dX12_shuffle_14 : decode cX12_shuffle 14 = .ok (.invokestatic 142, 3) := by decide +kernel
theorem dX12_shuffle_17 : decode cX12_shuffle 17 = .ok (.ifCond .ne 6, 3) := by decide +kernel
theorem dX12_shuffle_20 : decode cX12_shuffle 20 = .ok (.bipush (-2), 2) := by decide +kernel
theorem dX12_shuffle_22 : decode cX12_shuffle 22 = .ok (.ireturn, 1) := by decide +kernel
theorem dX12_shuffle_23 : decode cX12_shuffle 23 = .ok (.aload_n 0, 1) := by decide +kernel
theorem dX12_shuffle_24 : decode cX12_shuffle 24 = .ok (.iload_n 1, 1) := by decide +kernel
theorem dX12_shuffle_25 : decode cX12_shuffle 25 = .ok (.iload_n 2, 1) := by decide +kernel
theorem dX12_shuffle_26 : decode cX12_shuffle 26 = .ok (.invokevirtual 179, 3) := by decide +kernel
theorem dX12_shuffle_29 : decode cX12_shuffle 29 = .ok (.aload_n 0, 1) := by decide +kernel
theorem dX12_shuffle_30 : decode cX12_shuffle 30 = .ok (.iload_n 1, 1) := by decide +kernel
theorem dX12_shuffle_31 : decode cX12_shuffle 31 = .ok (.invokevirtual 183, 3) := by decide +kernel
theorem dX12_shuffle_34 : decode cX12_shuffle 34 = .ok (.ireturn, 1) := by decide +kernel
theorem dX12_hitsOf_0 : decode cX12_hitsOf 0 = .ok (.iconst 0, 1) := by decide +kernel
theorem dX12_hitsOf_1 : decode cX12_hitsOf 1 = .ok (.istore_n 2, 1) := by decide +kernel
theorem dX12_hitsOf_2 : decode cX12_hitsOf 2 = .ok (.iconst 0, 1) := by decide +kernel
theorem dX12_hitsOf_3 : decode cX12_hitsOf 3 = .ok (.istore_n 3, 1) := by decide +kernel
theorem dX12_hitsOf_4 : decode cX12_hitsOf 4 = .ok (.iload_n 3, 1) := by decide +kernel
theorem dX12_hitsOf_5 : decode cX12_hitsOf 5 = .ok (.aload_n 0, 1) := by decide +kernel
theorem dX12_hitsOf_6 : decode cX12_hitsOf 6 = .ok (.iload_n 1, 1) := by decide +kernel
theorem dX12_hitsOf_7 : decode cX12_hitsOf 7 = .ok (.invokevirtual 161, 3) := by decide +kernel
theorem dX12_hitsOf_10 : decode cX12_hitsOf 10 = .ok (.if_icmp .ge 26, 3) := by decide +kernel
theorem dX12_hitsOf_13 : decode cX12_hitsOf 13 = .ok (.iload_n 2, 1) := by decide +kernel
theorem dX12_hitsOf_14 : decode cX12_hitsOf 14 = .ok (.aload_n 0, 1) := by decide +kernel
theorem dX12_hitsOf_15 : decode cX12_hitsOf 15 = .ok (.iload_n 1, 1) := by decide +kernel
theorem dX12_hitsOf_16 : decode cX12_hitsOf 16 = .ok (.iload_n 3, 1) := by decide +kernel
theorem dX12_hitsOf_17 : decode cX12_hitsOf 17 = .ok (.invokevirtual 171, 3) := by decide +kernel
theorem dX12_hitsOf_20 : decode cX12_hitsOf 20 = .ok (.ifCond .eq 7, 3) := by decide +kernel
theorem dX12_hitsOf_23 : decode cX12_hitsOf 23 = .ok (.iconst 1, 1) := by decide +kernel
theorem dX12_hitsOf_24 : decode cX12_hitsOf 24 = .ok (.goto 4, 3) := by decide +kernel
theorem dX12_hitsOf_27 : decode cX12_hitsOf 27 = .ok (.iconst 0, 1) := by decide +kernel
theorem dX12_hitsOf_28 : decode cX12_hitsOf 28 = .ok (.iadd, 1) := by decide +kernel
theorem dX12_hitsOf_29 : decode cX12_hitsOf 29 = .ok (.istore_n 2, 1) := by decide +kernel
theorem dX12_hitsOf_30 : decode cX12_hitsOf 30 = .ok (.iinc 3 1, 3) := by decide +kernel
theorem dX12_hitsOf_33 : decode cX12_hitsOf 33 = .ok (.goto (-29), 3) := by decide +kernel
theorem dX12_hitsOf_36 : decode cX12_hitsOf 36 = .ok (.iload_n 2, 1) := by decide +kernel
theorem dX12_hitsOf_37 : decode cX12_hitsOf 37 = .ok (.ireturn, 1) := by decide +kernel
theorem dX12_nextOf_0 : decode cX12_nextOf 0 = .ok (.iconst 0, 1) := by decide +kernel
theorem dX12_nextOf_1 : decode cX12_nextOf 1 = .ok (.istore_n 2, 1) := by decide +kernel
theorem dX12_nextOf_2 : decode cX12_nextOf 2 = .ok (.iconst 0, 1) := by decide +kernel
theorem dX12_nextOf_3 : decode cX12_nextOf 3 = .ok (.istore_n 3, 1) := by decide +kernel
theorem dX12_nextOf_4 : decode cX12_nextOf 4 = .ok (.iload_n 3, 1) := by decide +kernel
theorem dX12_nextOf_5 : decode cX12_nextOf 5 = .ok (.iconst 1, 1) := by decide +kernel
theorem dX12_nextOf_6 : decode cX12_nextOf 6 = .ok (.iadd, 1) := by decide +kernel
theorem dX12_nextOf_7 : decode cX12_nextOf 7 = .ok (.aload_n 0, 1) := by decide +kernel
theorem dX12_nextOf_8 : decode cX12_nextOf 8 = .ok (.iload_n 1, 1) := by decide +kernel
theorem dX12_nextOf_9 : decode cX12_nextOf 9 = .ok (.invokevirtual 161, 3) := by decide +kernel
theorem dX12_nextOf_12 : decode cX12_nextOf 12 = .ok (.if_icmp .ge 44, 3) := by decide +kernel
theorem dX12_nextOf_15 : decode cX12_nextOf 15 = .ok (.iload_n 2, 1) := by decide +kernel
theorem dX12_nextOf_16 : decode cX12_nextOf 16 = .ok (.aload_n 0, 1) := by decide +kernel
theorem dX12_nextOf_17 : decode cX12_nextOf 17 = .ok (.getfield 45, 3) := by decide +kernel
theorem dX12_nextOf_20 : decode cX12_nextOf 20 = .ok (.bipush 25, 2) := by decide +kernel
theorem dX12_nextOf_22 : decode cX12_nextOf 22 = .ok (.iload_n 1, 1) := by decide +kernel
theorem dX12_nextOf_23 : decode cX12_nextOf 23 = .ok (.imul, 1) := by decide +kernel
theorem dX12_nextOf_24 : decode cX12_nextOf 24 = .ok (.iload_n 3, 1) := by decide +kernel
theorem dX12_nextOf_25 : decode cX12_nextOf 25 = .ok (.iadd, 1) := by decide +kernel
theorem dX12_nextOf_26 : decode cX12_nextOf 26 = .ok (.iaload, 1) := by decide +kernel
theorem dX12_nextOf_27 : decode cX12_nextOf 27 = .ok (.aload_n 0, 1) := by decide +kernel
theorem dX12_nextOf_28 : decode cX12_nextOf 28 = .ok (.getfield 42, 3) := by decide +kernel
theorem dX12_nextOf_31 : decode cX12_nextOf 31 = .ok (.bipush 25, 2) := by decide +kernel
theorem dX12_nextOf_33 : decode cX12_nextOf 33 = .ok (.iload_n 1, 1) := by decide +kernel
theorem dX12_nextOf_34 : decode cX12_nextOf 34 = .ok (.imul, 1) := by decide +kernel
theorem dX12_nextOf_35 : decode cX12_nextOf 35 = .ok (.iload_n 3, 1) := by decide +kernel
theorem dX12_nextOf_36 : decode cX12_nextOf 36 = .ok (.iadd, 1) := by decide +kernel
theorem dX12_nextOf_37 : decode cX12_nextOf 37 = .ok (.iconst 1, 1) := by decide +kernel
theorem dX12_nextOf_38 : decode cX12_nextOf 38 = .ok (.iadd, 1) := by decide +kernel
theorem dX12_nextOf_39 : decode cX12_nextOf 39 = .ok (.iaload, 1) := by decide +kernel
theorem dX12_nextOf_40 : decode cX12_nextOf 40 = .ok (.if_icmp .ne 7, 3) := by decide +kernel
theorem dX12_nextOf_43 : decode cX12_nextOf 43 = .ok (.iconst 1, 1) := by decide +kernel
theorem dX12_nextOf_44 : decode cX12_nextOf 44 = .ok (.goto 4, 3) := by decide +kernel
theorem dX12_nextOf_47 : decode cX12_nextOf 47 = .ok (.iconst 0, 1) := by decide +kernel
theorem dX12_nextOf_48 : decode cX12_nextOf 48 = .ok (.iadd, 1) := by decide +kernel
theorem dX12_nextOf_49 : decode cX12_nextOf 49 = .ok (.istore_n 2, 1) := by decide +kernel
theorem dX12_nextOf_50 : decode cX12_nextOf 50 = .ok (.iinc 3 1, 3) := by decide +kernel
theorem dX12_nextOf_53 : decode cX12_nextOf 53 = .ok (.goto (-49), 3) := by decide +kernel
theorem dX12_nextOf_56 : decode cX12_nextOf 56 = .ok (.iload_n 2, 1) := by decide +kernel
theorem dX12_nextOf_57 : decode cX12_nextOf 57 = .ok (.ireturn, 1) := by decide +kernel
theorem dX12_alikeOf_0 : decode cX12_alikeOf 0 = .ok (.iconst 0, 1) := by decide +kernel
theorem dX12_alikeOf_1 : decode cX12_alikeOf 1 = .ok (.istore_n 2, 1) := by decide +kernel
theorem dX12_alikeOf_2 : decode cX12_alikeOf 2 = .ok (.iconst 1, 1) := by decide +kernel
theorem dX12_alikeOf_3 : decode cX12_alikeOf 3 = .ok (.istore_n 3, 1) := by decide +kernel
theorem dX12_alikeOf_4 : decode cX12_alikeOf 4 = .ok (.iload_n 3, 1) := by decide +kernel
theorem dX12_alikeOf_5 : decode cX12_alikeOf 5 = .ok (.aload_n 0, 1) := by decide +kernel
theorem dX12_alikeOf_6 : decode cX12_alikeOf 6 = .ok (.iload_n 1, 1) := by decide +kernel
theorem dX12_alikeOf_7 : decode cX12_alikeOf 7 = .ok (.invokevirtual 161, 3) := by decide +kernel
theorem dX12_alikeOf_10 : decode cX12_alikeOf 10 = .ok (.if_icmp .ge 44, 3) := by decide +kernel
theorem dX12_alikeOf_13 : decode cX12_alikeOf 13 = .ok (.iload_n 2, 1) := by decide +kernel
theorem dX12_alikeOf_14 : decode cX12_alikeOf 14 = .ok (.aload_n 0, 1) := by decide +kernel
theorem dX12_alikeOf_15 : decode cX12_alikeOf 15 = .ok (.getfield 42, 3) := by decide +kernel
theorem dX12_alikeOf_18 : decode cX12_alikeOf 18 = .ok (.bipush 25, 2) := by decide +kernel
theorem dX12_alikeOf_20 : decode cX12_alikeOf 20 = .ok (.iload_n 1, 1) := by decide +kernel
theorem dX12_alikeOf_21 : decode cX12_alikeOf 21 = .ok (.imul, 1) := by decide +kernel
theorem dX12_alikeOf_22 : decode cX12_alikeOf 22 = .ok (.iload_n 3, 1) := by decide +kernel
theorem dX12_alikeOf_23 : decode cX12_alikeOf 23 = .ok (.iadd, 1) := by decide +kernel
theorem dX12_alikeOf_24 : decode cX12_alikeOf 24 = .ok (.iaload, 1) := by decide +kernel
theorem dX12_alikeOf_25 : decode cX12_alikeOf 25 = .ok (.aload_n 0, 1) := by decide +kernel
theorem dX12_alikeOf_26 : decode cX12_alikeOf 26 = .ok (.getfield 42, 3) := by decide +kernel
theorem dX12_alikeOf_29 : decode cX12_alikeOf 29 = .ok (.bipush 25, 2) := by decide +kernel
theorem dX12_alikeOf_31 : decode cX12_alikeOf 31 = .ok (.iload_n 1, 1) := by decide +kernel
theorem dX12_alikeOf_32 : decode cX12_alikeOf 32 = .ok (.imul, 1) := by decide +kernel
theorem dX12_alikeOf_33 : decode cX12_alikeOf 33 = .ok (.iload_n 3, 1) := by decide +kernel
theorem dX12_alikeOf_34 : decode cX12_alikeOf 34 = .ok (.iadd, 1) := by decide +kernel
theorem dX12_alikeOf_35 : decode cX12_alikeOf 35 = .ok (.iconst 1, 1) := by decide +kernel
theorem dX12_alikeOf_36 : decode cX12_alikeOf 36 = .ok (.isub, 1) := by decide +kernel
theorem dX12_alikeOf_37 : decode cX12_alikeOf 37 = .ok (.iaload, 1) := by decide +kernel
theorem dX12_alikeOf_38 : decode cX12_alikeOf 38 = .ok (.if_icmp .ne 7, 3) := by decide +kernel
theorem dX12_alikeOf_41 : decode cX12_alikeOf 41 = .ok (.iconst 1, 1) := by decide +kernel
theorem dX12_alikeOf_42 : decode cX12_alikeOf 42 = .ok (.goto 4, 3) := by decide +kernel
theorem dX12_alikeOf_45 : decode cX12_alikeOf 45 = .ok (.iconst 0, 1) := by decide +kernel
theorem dX12_alikeOf_46 : decode cX12_alikeOf 46 = .ok (.iadd, 1) := by decide +kernel
theorem dX12_alikeOf_47 : decode cX12_alikeOf 47 = .ok (.istore_n 2, 1) := by decide +kernel
theorem dX12_alikeOf_48 : decode cX12_alikeOf 48 = .ok (.iinc 3 1, 3) := by decide +kernel
theorem dX12_alikeOf_51 : decode cX12_alikeOf 51 = .ok (.goto (-47), 3) := by decide +kernel
theorem dX12_alikeOf_54 : decode cX12_alikeOf 54 = .ok (.iload_n 2, 1) := by decide +kernel
theorem dX12_alikeOf_55 : decode cX12_alikeOf 55 = .ok (.ireturn, 1) := by decide +kernel
theorem dX12_byLeft_0 : decode cX12_byLeft 0 = .ok (.iconst 0, 1) := by decide +kernel
theorem dX12_byLeft_1 : decode cX12_byLeft 1 = .ok (.istore_n 2, 1) := by decide +kernel
theorem dX12_byLeft_2 : decode cX12_byLeft 2 = .ok (.iload_n 2, 1) := by decide +kernel
theorem dX12_byLeft_3 : decode cX12_byLeft 3 = .ok (.iconst 5, 1) := by decide +kernel
theorem dX12_byLeft_4 : decode cX12_byLeft 4 = .ok (.if_icmp .ge 30, 3) := by decide +kernel
theorem dX12_byLeft_7 : decode cX12_byLeft 7 = .ok (.aload_n 0, 1) := by decide +kernel
theorem dX12_byLeft_8 : decode cX12_byLeft 8 = .ok (.getfield 57, 3) := by decide +kernel
theorem dX12_byLeft_11 : decode cX12_byLeft 11 = .ok (.iload_n 2, 1) := by decide +kernel
theorem dX12_byLeft_12 : decode cX12_byLeft 12 = .ok (.aload_n 0, 1) := by decide +kernel
theorem dX12_byLeft_13 : decode cX12_byLeft 13 = .ok (.getfield 27, 3) := by decide +kernel
theorem dX12_byLeft_16 : decode cX12_byLeft 16 = .ok (.iconst 5, 1) := by decide +kernel
theorem dX12_byLeft_17 : decode cX12_byLeft 17 = .ok (.aload_n 0, 1) := by decide +kernel
theorem dX12_byLeft_18 : decode cX12_byLeft 18 = .ok (.getfield 33, 3) := by decide +kernel
theorem dX12_byLeft_21 : decode cX12_byLeft 21 = .ok (.iload_n 1, 1) := by decide +kernel
theorem dX12_byLeft_22 : decode cX12_byLeft 22 = .ok (.iaload, 1) := by decide +kernel
theorem dX12_byLeft_23 : decode cX12_byLeft 23 = .ok (.imul, 1) := by decide +kernel
theorem dX12_byLeft_24 : decode cX12_byLeft 24 = .ok (.iload_n 2, 1) := by decide +kernel
theorem dX12_byLeft_25 : decode cX12_byLeft 25 = .ok (.iadd, 1) := by decide +kernel
theorem dX12_byLeft_26 : decode cX12_byLeft 26 = .ok (.iaload, 1) := by decide +kernel
theorem dX12_byLeft_27 : decode cX12_byLeft 27 = .ok (.iastore, 1) := by decide +kernel
theorem dX12_byLeft_28 : decode cX12_byLeft 28 = .ok (.iinc 2 1, 3) := by decide +kernel
theorem dX12_byLeft_31 : decode cX12_byLeft 31 = .ok (.goto (-29), 3) := by decide +kernel
theorem dX12_byLeft_34 : decode cX12_byLeft 34 = .ok (.iconst 0, 1) := by decide +kernel
theorem dX12_byLeft_35 : decode cX12_byLeft 35 = .ok (.istore_n 2, 1) := by decide +kernel
theorem dX12_byLeft_36 : decode cX12_byLeft 36 = .ok (.iconst 0, 1) := by decide +kernel
theorem dX12_byLeft_37 : decode cX12_byLeft 37 = .ok (.istore_n 3, 1) := by decide +kernel
theorem dX12_byLeft_38 : decode cX12_byLeft 38 = .ok (.iload_n 3, 1) := by decide +kernel
theorem dX12_byLeft_39 : decode cX12_byLeft 39 = .ok (.aload_n 0, 1) := by decide +kernel
theorem dX12_byLeft_40 : decode cX12_byLeft 40 = .ok (.iload_n 1, 1) := by decide +kernel
theorem dX12_byLeft_41 : decode cX12_byLeft 41 = .ok (.invokevirtual 161, 3) := by decide +kernel
theorem dX12_byLeft_44 : decode cX12_byLeft 44 = .ok (.if_icmp .ge 92, 3) := by decide +kernel
theorem dX12_byLeft_47 : decode cX12_byLeft 47 = .ok (.iconst 0, 1) := by decide +kernel
theorem dX12_byLeft_48 : decode cX12_byLeft 48 = .ok (.istore 4, 2) := by decide +kernel
theorem dX12_byLeft_50 : decode cX12_byLeft 50 = .ok (.iconst 1, 1) := by decide +kernel
theorem dX12_byLeft_51 : decode cX12_byLeft 51 = .ok (.istore 5, 2) := by decide +kernel
theorem dX12_byLeft_53 : decode cX12_byLeft 53 = .ok (.iload 5, 2) := by decide +kernel
theorem dX12_byLeft_55 : decode cX12_byLeft 55 = .ok (.iconst 5, 1) := by decide +kernel
theorem dX12_byLeft_56 : decode cX12_byLeft 56 = .ok (.if_icmp .ge 35, 3) := by decide +kernel
theorem dX12_byLeft_59 : decode cX12_byLeft 59 = .ok (.aload_n 0, 1) := by decide +kernel
theorem dX12_byLeft_60 : decode cX12_byLeft 60 = .ok (.getfield 57, 3) := by decide +kernel
theorem dX12_byLeft_63 : decode cX12_byLeft 63 = .ok (.iload 5, 2) := by decide +kernel
theorem dX12_byLeft_65 : decode cX12_byLeft 65 = .ok (.iaload, 1) := by decide +kernel
theorem dX12_byLeft_66 : decode cX12_byLeft 66 = .ok (.aload_n 0, 1) := by decide +kernel
theorem dX12_byLeft_67 : decode cX12_byLeft 67 = .ok (.getfield 57, 3) := by decide +kernel
theorem dX12_byLeft_70 : decode cX12_byLeft 70 = .ok (.iload 4, 2) := by decide +kernel
theorem dX12_byLeft_72 : decode cX12_byLeft 72 = .ok (.iaload, 1) := by decide +kernel
theorem dX12_byLeft_73 : decode cX12_byLeft 73 = .ok (.if_icmp .le 8, 3) := by decide +kernel
theorem dX12_byLeft_76 : decode cX12_byLeft 76 = .ok (.iload 5, 2) := by decide +kernel
theorem dX12_byLeft_78 : decode cX12_byLeft 78 = .ok (.goto 5, 3) := by decide +kernel
theorem dX12_byLeft_81 : decode cX12_byLeft 81 = .ok (.iload 4, 2) := by decide +kernel
theorem dX12_byLeft_83 : decode cX12_byLeft 83 = .ok (.istore 4, 2) := by decide +kernel
theorem dX12_byLeft_85 : decode cX12_byLeft 85 = .ok (.iinc 5 1, 3) := by decide +kernel
theorem dX12_byLeft_88 : decode cX12_byLeft 88 = .ok (.goto (-35), 3) := by decide +kernel
theorem dX12_byLeft_91 : decode cX12_byLeft 91 = .ok (.aload_n 0, 1) := by decide +kernel
theorem dX12_byLeft_92 : decode cX12_byLeft 92 = .ok (.getfield 42, 3) := by decide +kernel
theorem dX12_byLeft_95 : decode cX12_byLeft 95 = .ok (.bipush 25, 2) := by decide +kernel
theorem dX12_byLeft_97 : decode cX12_byLeft 97 = .ok (.iload_n 1, 1) := by decide +kernel
theorem dX12_byLeft_98 : decode cX12_byLeft 98 = .ok (.imul, 1) := by decide +kernel
theorem dX12_byLeft_99 : decode cX12_byLeft 99 = .ok (.iload_n 3, 1) := by decide +kernel
theorem dX12_byLeft_100 : decode cX12_byLeft 100 = .ok (.iadd, 1) := by decide +kernel
theorem dX12_byLeft_101 : decode cX12_byLeft 101 = .ok (.iaload, 1) := by decide +kernel
theorem dX12_byLeft_102 : decode cX12_byLeft 102 = .ok (.istore 5, 2) := by decide +kernel
theorem dX12_byLeft_104 : decode cX12_byLeft 104 = .ok (.iload_n 2, 1) := by decide +kernel
theorem dX12_byLeft_105 : decode cX12_byLeft 105 = .ok (.iload 5, 2) := by decide +kernel
theorem dX12_byLeft_107 : decode cX12_byLeft 107 = .ok (.iload 4, 2) := by decide +kernel
theorem dX12_byLeft_109 : decode cX12_byLeft 109 = .ok (.if_icmp .ne 7, 3) := by decide +kernel
theorem dX12_byLeft_112 : decode cX12_byLeft 112 = .ok (.iconst 1, 1) := by decide +kernel
theorem dX12_byLeft_113 : decode cX12_byLeft 113 = .ok (.goto 4, 3) := by decide +kernel
theorem dX12_byLeft_116 : decode cX12_byLeft 116 = .ok (.iconst 0, 1) := by decide +kernel
theorem dX12_byLeft_117 : decode cX12_byLeft 117 = .ok (.iadd, 1) := by decide +kernel
theorem dX12_byLeft_118 : decode cX12_byLeft 118 = .ok (.istore_n 2, 1) := by decide +kernel
theorem dX12_byLeft_119 : decode cX12_byLeft 119 = .ok (.aload_n 0, 1) := by decide +kernel
theorem dX12_byLeft_120 : decode cX12_byLeft 120 = .ok (.getfield 57, 3) := by decide +kernel
theorem dX12_byLeft_123 : decode cX12_byLeft 123 = .ok (.iload 5, 2) := by decide +kernel
theorem dX12_byLeft_125 : decode cX12_byLeft 125 = .ok (.dup2, 1) := by decide +kernel
theorem dX12_byLeft_126 : decode cX12_byLeft 126 = .ok (.iaload, 1) := by decide +kernel
theorem dX12_byLeft_127 : decode cX12_byLeft 127 = .ok (.iconst 1, 1) := by decide +kernel
theorem dX12_byLeft_128 : decode cX12_byLeft 128 = .ok (.isub, 1) := by decide +kernel
theorem dX12_byLeft_129 : decode cX12_byLeft 129 = .ok (.iastore, 1) := by decide +kernel
theorem dX12_byLeft_130 : decode cX12_byLeft 130 = .ok (.iinc 3 1, 3) := by decide +kernel
theorem dX12_byLeft_133 : decode cX12_byLeft 133 = .ok (.goto (-95), 3) := by decide +kernel
theorem dX12_byLeft_136 : decode cX12_byLeft 136 = .ok (.iload_n 2, 1) := by decide +kernel
theorem dX12_byLeft_137 : decode cX12_byLeft 137 = .ok (.ireturn, 1) := by decide +kernel
theorem dX12_told_0 : decode cX12_told 0 = .ok (.aload_n 0, 1) := by decide +kernel
theorem dX12_told_1 : decode cX12_told 1 = .ok (.iload_n 1, 1) := by decide +kernel
theorem dX12_told_2 : decode cX12_told 2 = .ok (.invokevirtual 157, 3) := by decide +kernel
theorem dX12_told_5 : decode cX12_told 5 = .ok (.ifCond .ne 6, 3) := by decide +kernel
theorem dX12_told_8 : decode cX12_told 8 = .ok (.ldc 186, 2) := by decide +kernel
theorem dX12_told_10 : decode cX12_told 10 = .ok (.ireturn, 1) := by decide +kernel
theorem dX12_told_11 : decode cX12_told 11 = .ok (.iload_n 2, 1) := by decide +kernel
theorem dX12_told_12 : decode cX12_told 12 = .ok (.tableswitch 192 0 13 #[72, 79, 86, 93, 99, 105, 111, 117, 123, 129, 156, 163, 170, 185], 72) := by decide +kernel
theorem dX12_told_84 : decode cX12_told 84 = .ok (.aload_n 0, 1) := by decide +kernel
theorem dX12_told_85 : decode cX12_told 85 = .ok (.getfield 33, 3) := by decide +kernel
theorem dX12_told_88 : decode cX12_told 88 = .ok (.iload_n 1, 1) := by decide +kernel
theorem dX12_told_89 : decode cX12_told 89 = .ok (.iaload, 1) := by decide +kernel
theorem dX12_told_90 : decode cX12_told 90 = .ok (.ireturn, 1) := by decide +kernel
theorem dX12_told_91 : decode cX12_told 91 = .ok (.aload_n 0, 1) := by decide +kernel
theorem dX12_told_92 : decode cX12_told 92 = .ok (.getfield 36, 3) := by decide +kernel
theorem dX12_told_95 : decode cX12_told 95 = .ok (.iload_n 1, 1) := by decide +kernel
theorem dX12_told_96 : decode cX12_told 96 = .ok (.iaload, 1) := by decide +kernel
theorem dX12_told_97 : decode cX12_told 97 = .ok (.ireturn, 1) := by decide +kernel
theorem dX12_told_98 : decode cX12_told 98 = .ok (.aload_n 0, 1) := by decide +kernel
theorem dX12_told_99 : decode cX12_told 99 = .ok (.getfield 39, 3) := by decide +kernel
theorem dX12_told_102 : decode cX12_told 102 = .ok (.iload_n 1, 1) := by decide +kernel
theorem dX12_told_103 : decode cX12_told 103 = .ok (.iaload, 1) := by decide +kernel
theorem dX12_told_104 : decode cX12_told 104 = .ok (.ireturn, 1) := by decide +kernel
theorem dX12_told_105 : decode cX12_told 105 = .ok (.aload_n 0, 1) := by decide +kernel
theorem dX12_told_106 : decode cX12_told 106 = .ok (.iload_n 1, 1) := by decide +kernel
theorem dX12_told_107 : decode cX12_told 107 = .ok (.invokevirtual 161, 3) := by decide +kernel
theorem dX12_told_110 : decode cX12_told 110 = .ok (.ireturn, 1) := by decide +kernel
theorem dX12_told_111 : decode cX12_told 111 = .ok (.aload_n 0, 1) := by decide +kernel
theorem dX12_told_112 : decode cX12_told 112 = .ok (.iload_n 1, 1) := by decide +kernel
theorem dX12_told_113 : decode cX12_told 113 = .ok (.invokevirtual 183, 3) := by decide +kernel
theorem dX12_told_116 : decode cX12_told 116 = .ok (.ireturn, 1) := by decide +kernel
theorem dX12_told_117 : decode cX12_told 117 = .ok (.aload_n 0, 1) := by decide +kernel
theorem dX12_told_118 : decode cX12_told 118 = .ok (.iload_n 1, 1) := by decide +kernel
theorem dX12_told_119 : decode cX12_told 119 = .ok (.invokevirtual 187, 3) := by decide +kernel
theorem dX12_told_122 : decode cX12_told 122 = .ok (.ireturn, 1) := by decide +kernel
theorem dX12_told_123 : decode cX12_told 123 = .ok (.aload_n 0, 1) := by decide +kernel
theorem dX12_told_124 : decode cX12_told 124 = .ok (.iload_n 1, 1) := by decide +kernel
theorem dX12_told_125 : decode cX12_told 125 = .ok (.invokevirtual 190, 3) := by decide +kernel
theorem dX12_told_128 : decode cX12_told 128 = .ok (.ireturn, 1) := by decide +kernel
theorem dX12_told_129 : decode cX12_told 129 = .ok (.aload_n 0, 1) := by decide +kernel
theorem dX12_told_130 : decode cX12_told 130 = .ok (.iload_n 1, 1) := by decide +kernel
theorem dX12_told_131 : decode cX12_told 131 = .ok (.invokevirtual 193, 3) := by decide +kernel
theorem dX12_told_134 : decode cX12_told 134 = .ok (.ireturn, 1) := by decide +kernel
theorem dX12_told_135 : decode cX12_told 135 = .ok (.aload_n 0, 1) := by decide +kernel
theorem dX12_told_136 : decode cX12_told 136 = .ok (.iload_n 1, 1) := by decide +kernel
theorem dX12_told_137 : decode cX12_told 137 = .ok (.invokevirtual 196, 3) := by decide +kernel
theorem dX12_told_140 : decode cX12_told 140 = .ok (.ireturn, 1) := by decide +kernel
theorem dX12_told_141 : decode cX12_told 141 = .ok (.aload_n 0, 1) := by decide +kernel
theorem dX12_told_142 : decode cX12_told 142 = .ok (.iload_n 1, 1) := by decide +kernel
theorem dX12_told_143 : decode cX12_told 143 = .ok (.invokevirtual 183, 3) := by decide +kernel
theorem dX12_told_146 : decode cX12_told 146 = .ok (.aload_n 0, 1) := by decide +kernel
theorem dX12_told_147 : decode cX12_told 147 = .ok (.iload_n 1, 1) := by decide +kernel
theorem dX12_told_148 : decode cX12_told 148 = .ok (.invokevirtual 196, 3) := by decide +kernel
theorem dX12_told_151 : decode cX12_told 151 = .ok (.aload_n 0, 1) := by decide +kernel
theorem dX12_told_152 : decode cX12_told 152 = .ok (.iload_n 1, 1) := by decide +kernel
theorem dX12_told_153 : decode cX12_told 153 = .ok (.invokevirtual 161, 3) := by decide +kernel
theorem dX12_told_156 : decode cX12_told 156 = .ok (.iconst 5, 1) := by decide +kernel
theorem dX12_told_157 : decode cX12_told 157 = .ok (.idiv, 1) := by decide +kernel
theorem dX12_told_158 : decode cX12_told 158 = .ok (.iadd, 1) := by decide +kernel
theorem dX12_told_159 : decode cX12_told 159 = .ok (.if_icmp .le 7, 3) := by decide +kernel
theorem dX12_told_162 : decode cX12_told 162 = .ok (.iconst 1, 1) := by decide +kernel
theorem dX12_told_163 : decode cX12_told 163 = .ok (.goto 4, 3) := by decide +kernel
theorem dX12_told_166 : decode cX12_told 166 = .ok (.iconst 0, 1) := by decide +kernel
theorem dX12_told_167 : decode cX12_told 167 = .ok (.ireturn, 1) := by decide +kernel
theorem dX12_told_168 : decode cX12_told 168 = .ok (.aload_n 0, 1) := by decide +kernel
theorem dX12_told_169 : decode cX12_told 169 = .ok (.getfield 48, 3) := by decide +kernel
theorem dX12_told_172 : decode cX12_told 172 = .ok (.iload_n 1, 1) := by decide +kernel
theorem dX12_told_173 : decode cX12_told 173 = .ok (.iaload, 1) := by decide +kernel
theorem dX12_told_174 : decode cX12_told 174 = .ok (.ireturn, 1) := by decide +kernel
theorem dX12_told_175 : decode cX12_told 175 = .ok (.aload_n 0, 1) := by decide +kernel
theorem dX12_told_176 : decode cX12_told 176 = .ok (.getfield 51, 3) := by decide +kernel
theorem dX12_told_179 : decode cX12_told 179 = .ok (.iload_n 1, 1) := by decide +kernel
theorem dX12_told_180 : decode cX12_told 180 = .ok (.iaload, 1) := by decide +kernel
theorem dX12_told_181 : decode cX12_told 181 = .ok (.ireturn, 1) := by decide +kernel
theorem dX12_told_182 : decode cX12_told 182 = .ok (.aload_n 0, 1) := by decide +kernel
theorem dX12_told_183 : decode cX12_told 183 = .ok (.iload_n 1, 1) := by decide +kernel
theorem dX12_told_184 : decode cX12_told 184 = .ok (.iconst 1, 1) := by decide +kernel
theorem dX12_told_185 : decode cX12_told 185 = .ok (.invokevirtual 199, 3) := by decide +kernel
theorem dX12_told_188 : decode cX12_told 188 = .ok (.ifCond .eq 7, 3) := by decide +kernel
theorem dX12_told_191 : decode cX12_told 191 = .ok (.iconst 1, 1) := by decide +kernel
theorem dX12_told_192 : decode cX12_told 192 = .ok (.goto 4, 3) := by decide +kernel
theorem dX12_told_195 : decode cX12_told 195 = .ok (.iconst 0, 1) := by decide +kernel
theorem dX12_told_196 : decode cX12_told 196 = .ok (.ireturn, 1) := by decide +kernel
theorem dX12_told_197 : decode cX12_told 197 = .ok (.aload_n 0, 1) := by decide +kernel
theorem dX12_told_198 : decode cX12_told 198 = .ok (.iload_n 1, 1) := by decide +kernel
theorem dX12_told_199 : decode cX12_told 199 = .ok (.iconst 2, 1) := by decide +kernel
theorem dX12_told_200 : decode cX12_told 200 = .ok (.invokevirtual 199, 3) := by decide +kernel
theorem dX12_told_203 : decode cX12_told 203 = .ok (.ireturn, 1) := by decide +kernel
theorem dX12_told_204 : decode cX12_told 204 = .ok (.ldc 186, 2) := by decide +kernel
theorem dX12_told_206 : decode cX12_told 206 = .ok (.ireturn, 1) := by decide +kernel
theorem dX12_counts1_0 : decode cX12_counts1 0 = .ok (.iconst 0, 1) := by decide +kernel
theorem dX12_counts1_1 : decode cX12_counts1 1 = .ok (.istore_n 2, 1) := by decide +kernel
theorem dX12_counts1_2 : decode cX12_counts1 2 = .ok (.iload_n 2, 1) := by decide +kernel
theorem dX12_counts1_3 : decode cX12_counts1 3 = .ok (.iconst 5, 1) := by decide +kernel
theorem dX12_counts1_4 : decode cX12_counts1 4 = .ok (.if_icmp .ge 16, 3) := by decide +kernel
theorem dX12_counts1_7 : decode cX12_counts1 7 = .ok (.aload_n 0, 1) := by decide +kernel
theorem dX12_counts1_8 : decode cX12_counts1 8 = .ok (.getfield 66, 3) := by decide +kernel
theorem dX12_counts1_11 : decode cX12_counts1 11 = .ok (.iload_n 2, 1) := by decide +kernel
theorem dX12_counts1_12 : decode cX12_counts1 12 = .ok (.iconst 0, 1) := by decide +kernel
theorem dX12_counts1_13 : decode cX12_counts1 13 = .ok (.iastore, 1) := by decide +kernel
theorem dX12_counts1_14 : decode cX12_counts1 14 = .ok (.iinc 2 1, 3) := by decide +kernel
theorem dX12_counts1_17 : decode cX12_counts1 17 = .ok (.goto (-15), 3) := by decide +kernel
theorem dX12_counts1_20 : decode cX12_counts1 20 = .ok (.iconst 0, 1) := by decide +kernel
theorem dX12_counts1_21 : decode cX12_counts1 21 = .ok (.istore_n 2, 1) := by decide +kernel
theorem dX12_counts1_22 : decode cX12_counts1 22 = .ok (.iload_n 2, 1) := by decide +kernel
theorem dX12_counts1_23 : decode cX12_counts1 23 = .ok (.aload_n 0, 1) := by decide +kernel
theorem dX12_counts1_24 : decode cX12_counts1 24 = .ok (.iload_n 1, 1) := by decide +kernel
theorem dX12_counts1_25 : decode cX12_counts1 25 = .ok (.invokevirtual 161, 3) := by decide +kernel
theorem dX12_counts1_28 : decode cX12_counts1 28 = .ok (.if_icmp .ge 29, 3) := by decide +kernel
theorem dX12_counts1_31 : decode cX12_counts1 31 = .ok (.aload_n 0, 1) := by decide +kernel
theorem dX12_counts1_32 : decode cX12_counts1 32 = .ok (.getfield 66, 3) := by decide +kernel
theorem dX12_counts1_35 : decode cX12_counts1 35 = .ok (.aload_n 0, 1) := by decide +kernel
theorem dX12_counts1_36 : decode cX12_counts1 36 = .ok (.getfield 45, 3) := by decide +kernel
theorem dX12_counts1_39 : decode cX12_counts1 39 = .ok (.bipush 25, 2) := by decide +kernel
theorem dX12_counts1_41 : decode cX12_counts1 41 = .ok (.iload_n 1, 1) := by decide +kernel
theorem dX12_counts1_42 : decode cX12_counts1 42 = .ok (.imul, 1) := by decide +kernel
theorem dX12_counts1_43 : decode cX12_counts1 43 = .ok (.iload_n 2, 1) := by decide +kernel
theorem dX12_counts1_44 : decode cX12_counts1 44 = .ok (.iadd, 1) := by decide +kernel
theorem dX12_counts1_45 : decode cX12_counts1 45 = .ok (.iaload, 1) := by decide +kernel
theorem dX12_counts1_46 : decode cX12_counts1 46 = .ok (.dup2, 1) := by decide +kernel
theorem dX12_counts1_47 : decode cX12_counts1 47 = .ok (.iaload, 1) := by decide +kernel
theorem dX12_counts1_48 : decode cX12_counts1 48 = .ok (.iconst 1, 1) := by decide +kernel
theorem dX12_counts1_49 : decode cX12_counts1 49 = .ok (.iadd, 1) := by decide +kernel
theorem dX12_counts1_50 : decode cX12_counts1 50 = .ok (.iastore, 1) := by decide +kernel
theorem dX12_counts1_51 : decode cX12_counts1 51 = .ok (.iinc 2 1, 3) := by decide +kernel
theorem dX12_counts1_54 : decode cX12_counts1 54 = .ok (.goto (-32), 3) := by decide +kernel
theorem dX12_counts1_57 : decode cX12_counts1 57 = .ok (.return_, 1) := by decide +kernel
theorem dX12_exact_0 : decode cX12_exact 0 = .ok (.aload_n 0, 1) := by decide +kernel
theorem dX12_exact_1 : decode cX12_exact 1 = .ok (.iload_n 1, 1) := by decide +kernel
theorem dX12_exact_2 : decode cX12_exact 2 = .ok (.invokevirtual 157, 3) := by decide +kernel
theorem dX12_exact_5 : decode cX12_exact 5 = .ok (.ifCond .eq 25, 3) := by decide +kernel
theorem dX12_exact_8 : decode cX12_exact 8 = .ok (.iload_n 2, 1) := by decide +kernel
theorem dX12_exact_9 : decode cX12_exact 9 = .ok (.i2l, 1) := by decide +kernel
theorem dX12_exact_10 : decode cX12_exact 10 = .ok (.lconst 0, 1) := by decide +kernel
theorem dX12_exact_11 : decode cX12_exact 11 = .ok (.ldc2_w 203, 3) := by decide +kernel
theorem dX12_exact_14 : decode cX12_exact 14 = .ok (.invokestatic 142, 3) := by decide +kernel
theorem dX12_exact_17 : decode cX12_exact 17 = .ok (.ifCond .eq 13, 3) := by decide +kernel
theorem dX12_exact_20 : decode cX12_exact 20 = .ok (.iload_n 3, 1) := by decide +kernel
theorem dX12_exact_21 : decode cX12_exact 21 = .ok (.i2l, 1) := by decide +kernel
theorem dX12_exact_22 : decode cX12_exact 22 = .ok (.lconst 0, 1) := by decide +kernel
theorem dX12_exact_23 : decode cX12_exact 23 = .ok (.lconst 1, 1) := by decide +kernel
theorem dX12_exact_24 : decode cX12_exact 24 = .ok (.invokestatic 142, 3) := by decide +kernel
theorem dX12_exact_27 : decode cX12_exact 27 = .ok (.ifCond .ne 7, 3) := by decide +kernel
theorem dX12_exact_30 : decode cX12_exact 30 = .ok (.ldc2_w 205, 3) := by decide +kernel
theorem dX12_exact_33 : decode cX12_exact 33 = .ok (.lreturn, 1) := by decide +kernel
theorem dX12_exact_34 : decode cX12_exact 34 = .ok (.aload_n 0, 1) := by decide +kernel
theorem dX12_exact_35 : decode cX12_exact 35 = .ok (.iload_n 1, 1) := by decide +kernel
theorem dX12_exact_36 : decode cX12_exact 36 = .ok (.invokevirtual 207, 3) := by decide +kernel
theorem dX12_exact_39 : decode cX12_exact 39 = .ok (.iconst 0, 1) := by decide +kernel
theorem dX12_exact_40 : decode cX12_exact 40 = .ok (.istore 4, 2) := by decide +kernel
theorem dX12_exact_42 : decode cX12_exact 42 = .ok (.iload 4, 2) := by decide +kernel
theorem dX12_exact_44 : decode cX12_exact 44 = .ok (.bipush 25, 2) := by decide +kernel
theorem dX12_exact_46 : decode cX12_exact 46 = .ok (.if_icmp .gt 26, 3) := by decide +kernel
theorem dX12_exact_49 : decode cX12_exact 49 = .ok (.aload_n 0, 1) := by decide +kernel
theorem dX12_exact_50 : decode cX12_exact 50 = .ok (.getfield 60, 3) := by decide +kernel
theorem dX12_exact_53 : decode cX12_exact 53 = .ok (.iload 4, 2) := by decide +kernel
theorem dX12_exact_55 : decode cX12_exact 55 = .ok (.iload 4, 2) := by decide +kernel
theorem dX12_exact_57 : decode cX12_exact 57 = .ok (.ifCond .ne 7, 3) := by decide +kernel
theorem dX12_exact_60 : decode cX12_exact 60 = .ok (.lconst 1, 1) := by decide +kernel
theorem dX12_exact_61 : decode cX12_exact 61 = .ok (.goto 4, 3) := by decide +kernel
theorem dX12_exact_64 : decode cX12_exact 64 = .ok (.lconst 0, 1) := by decide +kernel
theorem dX12_exact_65 : decode cX12_exact 65 = .ok (.lastore, 1) := by decide +kernel
theorem dX12_exact_66 : decode cX12_exact 66 = .ok (.iinc 4 1, 3) := by decide +kernel
theorem dX12_exact_69 : decode cX12_exact 69 = .ok (.goto (-27), 3) := by decide +kernel
theorem dX12_exact_72 : decode cX12_exact 72 = .ok (.iconst 0, 1) := by decide +kernel
theorem dX12_exact_73 : decode cX12_exact 73 = .ok (.istore 4, 2) := by decide +kernel
theorem dX12_exact_75 : decode cX12_exact 75 = .ok (.lconst 1, 1) := by decide +kernel
theorem dX12_exact_76 : decode cX12_exact 76 = .ok (.lstore 5, 2) := by decide +kernel
theorem dX12_exact_78 : decode cX12_exact 78 = .ok (.iconst 0, 1) := by decide +kernel
theorem dX12_exact_79 : decode cX12_exact 79 = .ok (.istore 7, 2) := by decide +kernel
theorem dX12_exact_81 : decode cX12_exact 81 = .ok (.iload 7, 2) := by decide +kernel
theorem dX12_exact_83 : decode cX12_exact 83 = .ok (.iconst 5, 1) := by decide +kernel
theorem dX12_exact_84 : decode cX12_exact 84 = .ok (.if_icmp .ge 215, 3) := by decide +kernel
theorem dX12_exact_87 : decode cX12_exact 87 = .ok (.aload_n 0, 1) := by decide +kernel
theorem dX12_exact_88 : decode cX12_exact 88 = .ok (.getfield 27, 3) := by decide +kernel
theorem dX12_exact_91 : decode cX12_exact 91 = .ok (.iconst 5, 1) := by decide +kernel
theorem dX12_exact_92 : decode cX12_exact 92 = .ok (.aload_n 0, 1) := by decide +kernel
theorem dX12_exact_93 : decode cX12_exact 93 = .ok (.getfield 33, 3) := by decide +kernel
theorem dX12_exact_96 : decode cX12_exact 96 = .ok (.iload_n 1, 1) := by decide +kernel
theorem dX12_exact_97 : decode cX12_exact 97 = .ok (.iaload, 1) := by decide +kernel
theorem dX12_exact_98 : decode cX12_exact 98 = .ok (.imul, 1) := by decide +kernel
theorem dX12_exact_99 : decode cX12_exact 99 = .ok (.iload 7, 2) := by decide +kernel
theorem dX12_exact_101 : decode cX12_exact 101 = .ok (.iadd, 1) := by decide +kernel
theorem dX12_exact_102 : decode cX12_exact 102 = .ok (.iaload, 1) := by decide +kernel
theorem dX12_exact_103 : decode cX12_exact 103 = .ok (.istore 8, 2) := by decide +kernel
theorem dX12_exact_105 : decode cX12_exact 105 = .ok (.iload 4, 2) := by decide +kernel
theorem dX12_exact_107 : decode cX12_exact 107 = .ok (.iload 8, 2) := by decide +kernel
theorem dX12_exact_109 : decode cX12_exact 109 = .ok (.iadd, 1) := by decide +kernel
theorem dX12_exact_110 : decode cX12_exact 110 = .ok (.istore 4, 2) := by decide +kernel
theorem dX12_exact_112 : decode cX12_exact 112 = .ok (.lload 5, 2) := by decide +kernel
theorem dX12_exact_114 : decode cX12_exact 114 = .ok (.aload_n 0, 1) := by decide +kernel
theorem dX12_exact_115 : decode cX12_exact 115 = .ok (.getfield 23, 3) := by decide +kernel
theorem dX12_exact_118 : decode cX12_exact 118 = .ok (.bipush 26, 2) := by decide +kernel
theorem dX12_exact_120 : decode cX12_exact 120 = .ok (.iload 4, 2) := by decide +kernel
theorem dX12_exact_122 : decode cX12_exact 122 = .ok (.imul, 1) := by decide +kernel
theorem dX12_exact_123 : decode cX12_exact 123 = .ok (.iload 8, 2) := by decide +kernel
theorem dX12_exact_125 : decode cX12_exact 125 = .ok (.iadd, 1) := by decide +kernel
theorem dX12_exact_126 : decode cX12_exact 126 = .ok (.laload, 1) := by decide +kernel
theorem dX12_exact_127 : decode cX12_exact 127 = .ok (.lmul, 1) := by decide +kernel
theorem dX12_exact_128 : decode cX12_exact 128 = .ok (.lstore 5, 2) := by decide +kernel
theorem dX12_exact_130 : decode cX12_exact 130 = .ok (.iconst 0, 1) := by decide +kernel
theorem dX12_exact_131 : decode cX12_exact 131 = .ok (.istore 9, 2) := by decide +kernel
theorem dX12_exact_133 : decode cX12_exact 133 = .ok (.iload 9, 2) := by decide +kernel
theorem dX12_exact_135 : decode cX12_exact 135 = .ok (.bipush 25, 2) := by decide +kernel
theorem dX12_exact_137 : decode cX12_exact 137 = .ok (.if_icmp .gt 17, 3) := by decide +kernel
theorem dX12_exact_140 : decode cX12_exact 140 = .ok (.aload_n 0, 1) := by decide +kernel
theorem dX12_exact_141 : decode cX12_exact 141 = .ok (.getfield 63, 3) := by decide +kernel
theorem dX12_exact_144 : decode cX12_exact 144 = .ok (.iload 9, 2) := by decide +kernel
theorem dX12_exact_146 : decode cX12_exact 146 = .ok (.lconst 0, 1) := by decide +kernel
theorem dX12_exact_147 : decode cX12_exact 147 = .ok (.lastore, 1) := by decide +kernel
theorem dX12_exact_148 : decode cX12_exact 148 = .ok (.iinc 9 1, 3) := by decide +kernel
theorem dX12_exact_151 : decode cX12_exact 151 = .ok (.goto (-18), 3) := by decide +kernel
theorem dX12_exact_154 : decode cX12_exact 154 = .ok (.iconst 0, 1) := by decide +kernel
theorem dX12_exact_155 : decode cX12_exact 155 = .ok (.istore 9, 2) := by decide +kernel
theorem dX12_exact_157 : decode cX12_exact 157 = .ok (.iload 9, 2) := by decide +kernel
theorem dX12_exact_159 : decode cX12_exact 159 = .ok (.iload 4, 2) := by decide +kernel
theorem dX12_exact_161 : decode cX12_exact 161 = .ok (.iload 8, 2) := by decide +kernel
theorem dX12_exact_163 : decode cX12_exact 163 = .ok (.isub, 1) := by decide +kernel
theorem dX12_exact_164 : decode cX12_exact 164 = .ok (.if_icmp .gt 99, 3) := by decide +kernel
theorem dX12_exact_167 : decode cX12_exact 167 = .ok (.iconst 0, 1) := by decide +kernel
theorem dX12_exact_168 : decode cX12_exact 168 = .ok (.istore 10, 2) := by decide +kernel
theorem dX12_exact_170 : decode cX12_exact 170 = .ok (.iload 10, 2) := by decide +kernel
theorem dX12_exact_172 : decode cX12_exact 172 = .ok (.iload 8, 2) := by decide +kernel
theorem dX12_exact_174 : decode cX12_exact 174 = .ok (.if_icmp .gt 83, 3) := by decide +kernel
theorem dX12_exact_177 : decode cX12_exact 177 = .ok (.iload 10, 2) := by decide +kernel
theorem dX12_exact_179 : decode cX12_exact 179 = .ok (.aload_n 0, 1) := by decide +kernel
theorem dX12_exact_180 : decode cX12_exact 180 = .ok (.getfield 66, 3) := by decide +kernel
theorem dX12_exact_183 : decode cX12_exact 183 = .ok (.iload 7, 2) := by decide +kernel
theorem dX12_exact_185 : decode cX12_exact 185 = .ok (.iaload, 1) := by decide +kernel
theorem dX12_exact_186 : decode cX12_exact 186 = .ok (.if_icmp .gt 71, 3) := by decide +kernel
theorem dX12_exact_189 : decode cX12_exact 189 = .ok (.aload_n 0, 1) := by decide +kernel
theorem dX12_exact_190 : decode cX12_exact 190 = .ok (.getfield 63, 3) := by decide +kernel
theorem dX12_exact_193 : decode cX12_exact 193 = .ok (.iload 9, 2) := by decide +kernel
theorem dX12_exact_195 : decode cX12_exact 195 = .ok (.iload 10, 2) := by decide +kernel
theorem dX12_exact_197 : decode cX12_exact 197 = .ok (.iadd, 1) := by decide +kernel
theorem dX12_exact_198 : decode cX12_exact 198 = .ok (.dup2, 1) := by decide +kernel
theorem dX12_exact_199 : decode cX12_exact 199 = .ok (.laload, 1) := by decide +kernel
theorem dX12_exact_200 : decode cX12_exact 200 = .ok (.aload_n 0, 1) := by decide +kernel
theorem dX12_exact_201 : decode cX12_exact 201 = .ok (.getfield 60, 3) := by decide +kernel
theorem dX12_exact_204 : decode cX12_exact 204 = .ok (.iload 9, 2) := by decide +kernel
theorem dX12_exact_206 : decode cX12_exact 206 = .ok (.laload, 1) := by decide +kernel
theorem dX12_exact_207 : decode cX12_exact 207 = .ok (.aload_n 0, 1) := by decide +kernel
theorem dX12_exact_208 : decode cX12_exact 208 = .ok (.getfield 23, 3) := by decide +kernel
theorem dX12_exact_211 : decode cX12_exact 211 = .ok (.bipush 26, 2) := by decide +kernel
theorem dX12_exact_213 : decode cX12_exact 213 = .ok (.aload_n 0, 1) := by decide +kernel
theorem dX12_exact_214 : decode cX12_exact 214 = .ok (.getfield 66, 3) := by decide +kernel
theorem dX12_exact_217 : decode cX12_exact 217 = .ok (.iload 7, 2) := by decide +kernel
theorem dX12_exact_219 : decode cX12_exact 219 = .ok (.iaload, 1) := by decide +kernel
theorem dX12_exact_220 : decode cX12_exact 220 = .ok (.imul, 1) := by decide +kernel
theorem dX12_exact_221 : decode cX12_exact 221 = .ok (.iload 10, 2) := by decide +kernel
theorem dX12_exact_223 : decode cX12_exact 223 = .ok (.iadd, 1) := by decide +kernel
theorem dX12_exact_224 : decode cX12_exact 224 = .ok (.laload, 1) := by decide +kernel
theorem dX12_exact_225 : decode cX12_exact 225 = .ok (.lmul, 1) := by decide +kernel
theorem dX12_exact_226 : decode cX12_exact 226 = .ok (.aload_n 0, 1) := by decide +kernel
theorem dX12_exact_227 : decode cX12_exact 227 = .ok (.getfield 23, 3) := by decide +kernel
theorem dX12_exact_230 : decode cX12_exact 230 = .ok (.bipush 26, 2) := by decide +kernel
theorem dX12_exact_232 : decode cX12_exact 232 = .ok (.iload 4, 2) := by decide +kernel
theorem dX12_exact_234 : decode cX12_exact 234 = .ok (.iload 9, 2) := by decide +kernel
theorem dX12_exact_236 : decode cX12_exact 236 = .ok (.isub, 1) := by decide +kernel
theorem dX12_exact_237 : decode cX12_exact 237 = .ok (.iload 10, 2) := by decide +kernel
theorem dX12_exact_239 : decode cX12_exact 239 = .ok (.isub, 1) := by decide +kernel
theorem dX12_exact_240 : decode cX12_exact 240 = .ok (.imul, 1) := by decide +kernel
theorem dX12_exact_241 : decode cX12_exact 241 = .ok (.iload 8, 2) := by decide +kernel
theorem dX12_exact_243 : decode cX12_exact 243 = .ok (.iadd, 1) := by decide +kernel
theorem dX12_exact_244 : decode cX12_exact 244 = .ok (.iload 10, 2) := by decide +kernel
theorem dX12_exact_246 : decode cX12_exact 246 = .ok (.isub, 1) := by decide +kernel
theorem dX12_exact_247 : decode cX12_exact 247 = .ok (.laload, 1) := by decide +kernel
theorem dX12_exact_248 : decode cX12_exact 248 = .ok (.lmul, 1) := by decide +kernel
theorem dX12_exact_249 : decode cX12_exact 249 = .ok (.ladd, 1) := by decide +kernel
theorem dX12_exact_250 : decode cX12_exact 250 = .ok (.lastore, 1) := by decide +kernel
theorem dX12_exact_251 : decode cX12_exact 251 = .ok (.iinc 10 1, 3) := by decide +kernel
theorem dX12_exact_254 : decode cX12_exact 254 = .ok (.goto (-84), 3) := by decide +kernel
theorem dX12_exact_257 : decode cX12_exact 257 = .ok (.iinc 9 1, 3) := by decide +kernel
theorem dX12_exact_260 : decode cX12_exact 260 = .ok (.goto (-103), 3) := by decide +kernel
theorem dX12_exact_263 : decode cX12_exact 263 = .ok (.iconst 0, 1) := by decide +kernel
theorem dX12_exact_264 : decode cX12_exact 264 = .ok (.istore 9, 2) := by decide +kernel
theorem dX12_exact_266 : decode cX12_exact 266 = .ok (.iload 9, 2) := by decide +kernel
theorem dX12_exact_268 : decode cX12_exact 268 = .ok (.bipush 25, 2) := by decide +kernel
theorem dX12_exact_270 : decode cX12_exact 270 = .ok (.if_icmp .gt 23, 3) := by decide +kernel
theorem dX12_exact_273 : decode cX12_exact 273 = .ok (.aload_n 0, 1) := by decide +kernel
theorem dX12_exact_274 : decode cX12_exact 274 = .ok (.getfield 60, 3) := by decide +kernel
theorem dX12_exact_277 : decode cX12_exact 277 = .ok (.iload 9, 2) := by decide +kernel
theorem dX12_exact_279 : decode cX12_exact 279 = .ok (.aload_n 0, 1) := by decide +kernel
theorem dX12_exact_280 : decode cX12_exact 280 = .ok (.getfield 63, 3) := by decide +kernel
theorem dX12_exact_283 : decode cX12_exact 283 = .ok (.iload 9, 2) := by decide +kernel
theorem dX12_exact_285 : decode cX12_exact 285 = .ok (.laload, 1) := by decide +kernel
theorem dX12_exact_286 : decode cX12_exact 286 = .ok (.lastore, 1) := by decide +kernel
theorem dX12_exact_287 : decode cX12_exact 287 = .ok (.iinc 9 1, 3) := by decide +kernel
theorem dX12_exact_290 : decode cX12_exact 290 = .ok (.goto (-24), 3) := by decide +kernel
theorem dX12_exact_293 : decode cX12_exact 293 = .ok (.iinc 7 1, 3) := by decide +kernel
theorem dX12_exact_296 : decode cX12_exact 296 = .ok (.goto (-215), 3) := by decide +kernel
theorem dX12_exact_299 : decode cX12_exact 299 = .ok (.iload_n 3, 1) := by decide +kernel
theorem dX12_exact_300 : decode cX12_exact 300 = .ok (.iconst 1, 1) := by decide +kernel
theorem dX12_exact_301 : decode cX12_exact 301 = .ok (.if_icmp .ne 6, 3) := by decide +kernel
theorem dX12_exact_304 : decode cX12_exact 304 = .ok (.lload 5, 2) := by decide +kernel
theorem dX12_exact_306 : decode cX12_exact 306 = .ok (.lreturn, 1) := by decide +kernel
theorem dX12_exact_307 : decode cX12_exact 307 = .ok (.lconst 0, 1) := by decide +kernel
theorem dX12_exact_308 : decode cX12_exact 308 = .ok (.lstore 7, 2) := by decide +kernel
theorem dX12_exact_310 : decode cX12_exact 310 = .ok (.iload_n 2, 1) := by decide +kernel
theorem dX12_exact_311 : decode cX12_exact 311 = .ok (.istore 9, 2) := by decide +kernel
theorem dX12_exact_313 : decode cX12_exact 313 = .ok (.iload 9, 2) := by decide +kernel
theorem dX12_exact_315 : decode cX12_exact 315 = .ok (.iload 4, 2) := by decide +kernel
theorem dX12_exact_317 : decode cX12_exact 317 = .ok (.if_icmp .gt 51, 3) := by decide +kernel
theorem dX12_exact_320 : decode cX12_exact 320 = .ok (.lload 7, 2) := by decide +kernel
theorem dX12_exact_322 : decode cX12_exact 322 = .ok (.iload 9, 2) := by decide +kernel
theorem dX12_exact_324 : decode cX12_exact 324 = .ok (.iload_n 2, 1) := by decide +kernel
theorem dX12_exact_325 : decode cX12_exact 325 = .ok (.isub, 1) := by decide +kernel
theorem dX12_exact_326 : decode cX12_exact 326 = .ok (.iconst 2, 1) := by decide +kernel
theorem dX12_exact_327 : decode cX12_exact 327 = .ok (.irem, 1) := by decide +kernel
theorem dX12_exact_328 : decode cX12_exact 328 = .ok (.ifCond .ne 7, 3) := by decide +kernel
theorem dX12_exact_331 : decode cX12_exact 331 = .ok (.lconst 1, 1) := by decide +kernel
theorem dX12_exact_332 : decode cX12_exact 332 = .ok (.goto 6, 3) := by decide +kernel
theorem dX12_exact_335 : decode cX12_exact 335 = .ok (.ldc2_w 211, 3) := by decide +kernel
theorem dX12_exact_338 : decode cX12_exact 338 = .ok (.aload_n 0, 1) := by decide +kernel
theorem dX12_exact_339 : decode cX12_exact 339 = .ok (.getfield 23, 3) := by decide +kernel
theorem dX12_exact_342 : decode cX12_exact 342 = .ok (.bipush 26, 2) := by decide +kernel
theorem dX12_exact_344 : decode cX12_exact 344 = .ok (.iload 9, 2) := by decide +kernel
theorem dX12_exact_346 : decode cX12_exact 346 = .ok (.imul, 1) := by decide +kernel
theorem dX12_exact_347 : decode cX12_exact 347 = .ok (.iload_n 2, 1) := by decide +kernel
theorem dX12_exact_348 : decode cX12_exact 348 = .ok (.iadd, 1) := by decide +kernel
theorem dX12_exact_349 : decode cX12_exact 349 = .ok (.laload, 1) := by decide +kernel
theorem dX12_exact_350 : decode cX12_exact 350 = .ok (.lmul, 1) := by decide +kernel
theorem dX12_exact_351 : decode cX12_exact 351 = .ok (.aload_n 0, 1) := by decide +kernel
theorem dX12_exact_352 : decode cX12_exact 352 = .ok (.getfield 60, 3) := by decide +kernel
theorem dX12_exact_355 : decode cX12_exact 355 = .ok (.iload 9, 2) := by decide +kernel
theorem dX12_exact_357 : decode cX12_exact 357 = .ok (.laload, 1) := by decide +kernel
theorem dX12_exact_358 : decode cX12_exact 358 = .ok (.lmul, 1) := by decide +kernel
theorem dX12_exact_359 : decode cX12_exact 359 = .ok (.ladd, 1) := by decide +kernel
theorem dX12_exact_360 : decode cX12_exact 360 = .ok (.lstore 7, 2) := by decide +kernel
theorem dX12_exact_362 : decode cX12_exact 362 = .ok (.iinc 9 1, 3) := by decide +kernel
theorem dX12_exact_365 : decode cX12_exact 365 = .ok (.goto (-52), 3) := by decide +kernel
theorem dX12_exact_368 : decode cX12_exact 368 = .ok (.lload 7, 2) := by decide +kernel
theorem dX12_exact_370 : decode cX12_exact 370 = .ok (.lreturn, 1) := by decide +kernel
theorem dX12_isLeak_0 : decode cX12_isLeak 0 = .ok (.iload_n 1, 1) := by decide +kernel
theorem dX12_isLeak_1 : decode cX12_isLeak 1 = .ok (.i2l, 1) := by decide +kernel
theorem dX12_isLeak_2 : decode cX12_isLeak 2 = .ok (.lconst 0, 1) := by decide +kernel
theorem dX12_isLeak_3 : decode cX12_isLeak 3 = .ok (.aload_n 0, 1) := by decide +kernel
theorem dX12_isLeak_4 : decode cX12_isLeak 4 = .ok (.getfield 213, 3) := by decide +kernel
theorem dX12_isLeak_7 : decode cX12_isLeak 7 = .ok (.iconst 1, 1) := by decide +kernel
theorem dX12_isLeak_8 : decode cX12_isLeak 8 = .ok (.isub, 1) := by decide +kernel
theorem dX12_isLeak_9 : decode cX12_isLeak 9 = .ok (.i2l, 1) := by decide +kernel
theorem dX12_isLeak_10 : decode cX12_isLeak 10 = .ok (.invokestatic 142, 3) := by decide +kernel
theorem dX12_isLeak_13 : decode cX12_isLeak 13 = .ok (.ireturn, 1) := by decide +kernel
theorem dX12_leak_0 : decode cX12_leak 0 = .ok (.iload_n 1, 1) := by decide +kernel
theorem dX12_leak_1 : decode cX12_leak 1 = .ok (.i2l, 1) := by decide +kernel
theorem dX12_leak_2 : decode cX12_leak 2 = .ok (.lconst 0, 1) := by decide +kernel
theorem dX12_leak_3 : decode cX12_leak 3 = .ok (.ldc2_w 216, 3) := by decide +kernel
theorem dX12_leak_6 : decode cX12_leak 6 = .ok (.invokestatic 142, 3) := by decide +kernel
theorem dX12_leak_9 : decode cX12_leak 9 = .ok (.ifCond .eq 22, 3) := by decide +kernel
theorem dX12_leak_12 : decode cX12_leak 12 = .ok (.iload_n 2, 1) := by decide +kernel
theorem dX12_leak_13 : decode cX12_leak 13 = .ok (.i2l, 1) := by decide +kernel
theorem dX12_leak_14 : decode cX12_leak 14 = .ok (.lconst 0, 1) := by decide +kernel
theorem dX12_leak_15 : decode cX12_leak 15 = .ok (.ldc2_w 203, 3) := by decide +kernel
theorem dX12_leak_18 : decode cX12_leak 18 = .ok (.invokestatic 142, 3) := by decide +kernel
theorem dX12_leak_21 : decode cX12_leak 21 = .ok (.ifCond .eq 10, 3) := by decide +kernel
theorem dX12_leak_24 : decode cX12_leak 24 = .ok (.iload_n 3, 1) := by decide +kernel
theorem dX12_leak_25 : decode cX12_leak 25 = .ok (.invokestatic 168, 3) := by decide +kernel
theorem dX12_leak_28 : decode cX12_leak 28 = .ok (.ifCond .ne 6, 3) := by decide +kernel
theorem dX12_leak_31 : decode cX12_leak 31 = .ok (.bipush (-2), 2) := by decide +kernel
theorem dX12_leak_33 : decode cX12_leak 33 = .ok (.ireturn, 1) := by decide +kernel
theorem dX12_leak_34 : decode cX12_leak 34 = .ok (.aload_n 0, 1) := by decide +kernel
theorem dX12_leak_35 : decode cX12_leak 35 = .ok (.getfield 213, 3) := by decide +kernel
theorem dX12_leak_38 : decode cX12_leak 38 = .ok (.bipush 10, 2) := by decide +kernel
theorem dX12_leak_40 : decode cX12_leak 40 = .ok (.if_icmp .ne 6, 3) := by decide +kernel
theorem dX12_leak_43 : decode cX12_leak 43 = .ok (.bipush (-4), 2) := by decide +kernel
theorem dX12_leak_45 : decode cX12_leak 45 = .ok (.ireturn, 1) := by decide +kernel
theorem dX12_leak_46 : decode cX12_leak 46 = .ok (.aload_n 0, 1) := by decide +kernel
theorem dX12_leak_47 : decode cX12_leak 47 = .ok (.getfield 69, 3) := by decide +kernel
theorem dX12_leak_50 : decode cX12_leak 50 = .ok (.aload_n 0, 1) := by decide +kernel
theorem dX12_leak_51 : decode cX12_leak 51 = .ok (.getfield 213, 3) := by decide +kernel
theorem dX12_leak_54 : decode cX12_leak 54 = .ok (.iload_n 1, 1) := by decide +kernel
theorem dX12_leak_55 : decode cX12_leak 55 = .ok (.iastore, 1) := by decide +kernel
theorem dX12_leak_56 : decode cX12_leak 56 = .ok (.aload_n 0, 1) := by decide +kernel
theorem dX12_leak_57 : decode cX12_leak 57 = .ok (.getfield 72, 3) := by decide +kernel
theorem dX12_leak_60 : decode cX12_leak 60 = .ok (.aload_n 0, 1) := by decide +kernel
theorem dX12_leak_61 : decode cX12_leak 61 = .ok (.getfield 213, 3) := by decide +kernel
theorem dX12_leak_64 : decode cX12_leak 64 = .ok (.iload_n 2, 1) := by decide +kernel
theorem dX12_leak_65 : decode cX12_leak 65 = .ok (.iastore, 1) := by decide +kernel
theorem dX12_leak_66 : decode cX12_leak 66 = .ok (.aload_n 0, 1) := by decide +kernel
theorem dX12_leak_67 : decode cX12_leak 67 = .ok (.getfield 75, 3) := by decide +kernel
theorem dX12_leak_70 : decode cX12_leak 70 = .ok (.aload_n 0, 1) := by decide +kernel
theorem dX12_leak_71 : decode cX12_leak 71 = .ok (.getfield 213, 3) := by decide +kernel
theorem dX12_leak_74 : decode cX12_leak 74 = .ok (.iload_n 3, 1) := by decide +kernel
theorem dX12_leak_75 : decode cX12_leak 75 = .ok (.iastore, 1) := by decide +kernel
theorem dX12_leak_76 : decode cX12_leak 76 = .ok (.aload_n 0, 1) := by decide +kernel
theorem dX12_leak_77 : decode cX12_leak 77 = .ok (.getfield 78, 3) := by decide +kernel
theorem dX12_leak_80 : decode cX12_leak 80 = .ok (.aload_n 0, 1) := by decide +kernel
theorem dX12_leak_81 : decode cX12_leak 81 = .ok (.getfield 213, 3) := by decide +kernel
theorem dX12_leak_84 : decode cX12_leak 84 = .ok (.iconst 0, 1) := by decide +kernel
theorem dX12_leak_85 : decode cX12_leak 85 = .ok (.iastore, 1) := by decide +kernel
theorem dX12_leak_86 : decode cX12_leak 86 = .ok (.aload_n 0, 1) := by decide +kernel
theorem dX12_leak_87 : decode cX12_leak 87 = .ok (.dup, 1) := by decide +kernel
theorem dX12_leak_88 : decode cX12_leak 88 = .ok (.getfield 213, 3) := by decide +kernel
theorem dX12_leak_91 : decode cX12_leak 91 = .ok (.iconst 1, 1) := by decide +kernel
theorem dX12_leak_92 : decode cX12_leak 92 = .ok (.iadd, 1) := by decide +kernel
theorem dX12_leak_93 : decode cX12_leak 93 = .ok (.putfield 213, 3) := by decide +kernel
theorem dX12_leak_96 : decode cX12_leak 96 = .ok (.aload_n 0, 1) := by decide +kernel
theorem dX12_leak_97 : decode cX12_leak 97 = .ok (.getfield 213, 3) := by decide +kernel
theorem dX12_leak_100 : decode cX12_leak 100 = .ok (.iconst 1, 1) := by decide +kernel
theorem dX12_leak_101 : decode cX12_leak 101 = .ok (.isub, 1) := by decide +kernel
theorem dX12_leak_102 : decode cX12_leak 102 = .ok (.ireturn, 1) := by decide +kernel
theorem dX12_shut_0 : decode cX12_shut 0 = .ok (.aload_n 0, 1) := by decide +kernel
theorem dX12_shut_1 : decode cX12_shut 1 = .ok (.iload_n 1, 1) := by decide +kernel
theorem dX12_shut_2 : decode cX12_shut 2 = .ok (.invokevirtual 218, 3) := by decide +kernel
theorem dX12_shut_5 : decode cX12_shut 5 = .ok (.ifCond .eq 13, 3) := by decide +kernel
theorem dX12_shut_8 : decode cX12_shut 8 = .ok (.iload_n 2, 1) := by decide +kernel
theorem dX12_shut_9 : decode cX12_shut 9 = .ok (.i2l, 1) := by decide +kernel
theorem dX12_shut_10 : decode cX12_shut 10 = .ok (.lconst 0, 1) := by decide +kernel
theorem dX12_shut_11 : decode cX12_shut 11 = .ok (.lconst 1, 1) := by decide +kernel
theorem dX12_shut_12 : decode cX12_shut 12 = .ok (.invokestatic 142, 3) := by decide +kernel
theorem dX12_shut_15 : decode cX12_shut 15 = .ok (.ifCond .ne 6, 3) := by decide +kernel
theorem dX12_shut_18 : decode cX12_shut 18 = .ok (.bipush (-2), 2) := by decide +kernel
theorem dX12_shut_20 : decode cX12_shut 20 = .ok (.ireturn, 1) := by decide +kernel
theorem dX12_shut_21 : decode cX12_shut 21 = .ok (.aload_n 0, 1) := by decide +kernel
theorem dX12_shut_22 : decode cX12_shut 22 = .ok (.getfield 78, 3) := by decide +kernel
theorem dX12_shut_25 : decode cX12_shut 25 = .ok (.iload_n 1, 1) := by decide +kernel
theorem dX12_shut_26 : decode cX12_shut 26 = .ok (.iaload, 1) := by decide +kernel
theorem dX12_shut_27 : decode cX12_shut 27 = .ok (.istore_n 3, 1) := by decide +kernel
theorem dX12_shut_28 : decode cX12_shut 28 = .ok (.aload_n 0, 1) := by decide +kernel
theorem dX12_shut_29 : decode cX12_shut 29 = .ok (.getfield 78, 3) := by decide +kernel
theorem dX12_shut_32 : decode cX12_shut 32 = .ok (.iload_n 1, 1) := by decide +kernel
theorem dX12_shut_33 : decode cX12_shut 33 = .ok (.iload_n 2, 1) := by decide +kernel
theorem dX12_shut_34 : decode cX12_shut 34 = .ok (.iastore, 1) := by decide +kernel
theorem dX12_shut_35 : decode cX12_shut 35 = .ok (.iload_n 3, 1) := by decide +kernel
theorem dX12_shut_36 : decode cX12_shut 36 = .ok (.ireturn, 1) := by decide +kernel
theorem dX12_givesOf_0 : decode cX12_givesOf 0 = .ok (.aload_n 0, 1) := by decide +kernel
theorem dX12_givesOf_1 : decode cX12_givesOf 1 = .ok (.getfield 78, 3) := by decide +kernel
theorem dX12_givesOf_4 : decode cX12_givesOf 4 = .ok (.iload_n 1, 1) := by decide +kernel
theorem dX12_givesOf_5 : decode cX12_givesOf 5 = .ok (.iaload, 1) := by decide +kernel
theorem dX12_givesOf_6 : decode cX12_givesOf 6 = .ok (.iconst 1, 1) := by decide +kernel
theorem dX12_givesOf_7 : decode cX12_givesOf 7 = .ok (.if_icmp .ne 5, 3) := by decide +kernel
theorem dX12_givesOf_10 : decode cX12_givesOf 10 = .ok (.iconst 0, 1) := by decide +kernel
theorem dX12_givesOf_11 : decode cX12_givesOf 11 = .ok (.ireturn, 1) := by decide +kernel
theorem dX12_givesOf_12 : decode cX12_givesOf 12 = .ok (.iconst 0, 1) := by decide +kernel
theorem dX12_givesOf_13 : decode cX12_givesOf 13 = .ok (.istore_n 3, 1) := by decide +kernel
theorem dX12_givesOf_14 : decode cX12_givesOf 14 = .ok (.iconst 0, 1) := by decide +kernel
theorem dX12_givesOf_15 : decode cX12_givesOf 15 = .ok (.istore 4, 2) := by decide +kernel
theorem dX12_givesOf_17 : decode cX12_givesOf 17 = .ok (.iload 4, 2) := by decide +kernel
theorem dX12_givesOf_19 : decode cX12_givesOf 19 = .ok (.aload_n 0, 1) := by decide +kernel
theorem dX12_givesOf_20 : decode cX12_givesOf 20 = .ok (.iload_n 2, 1) := by decide +kernel
theorem dX12_givesOf_21 : decode cX12_givesOf 21 = .ok (.invokevirtual 161, 3) := by decide +kernel
theorem dX12_givesOf_24 : decode cX12_givesOf 24 = .ok (.if_icmp .ge 38, 3) := by decide +kernel
theorem dX12_givesOf_27 : decode cX12_givesOf 27 = .ok (.iload_n 3, 1) := by decide +kernel
theorem dX12_givesOf_28 : decode cX12_givesOf 28 = .ok (.aload_n 0, 1) := by decide +kernel
theorem dX12_givesOf_29 : decode cX12_givesOf 29 = .ok (.getfield 42, 3) := by decide +kernel
theorem dX12_givesOf_32 : decode cX12_givesOf 32 = .ok (.bipush 25, 2) := by decide +kernel
theorem dX12_givesOf_34 : decode cX12_givesOf 34 = .ok (.iload_n 2, 1) := by decide +kernel
theorem dX12_givesOf_35 : decode cX12_givesOf 35 = .ok (.imul, 1) := by decide +kernel
theorem dX12_givesOf_36 : decode cX12_givesOf 36 = .ok (.iload 4, 2) := by decide +kernel
theorem dX12_givesOf_38 : decode cX12_givesOf 38 = .ok (.iadd, 1) := by decide +kernel
theorem dX12_givesOf_39 : decode cX12_givesOf 39 = .ok (.iaload, 1) := by decide +kernel
theorem dX12_givesOf_40 : decode cX12_givesOf 40 = .ok (.aload_n 0, 1) := by decide +kernel
theorem dX12_givesOf_41 : decode cX12_givesOf 41 = .ok (.getfield 75, 3) := by decide +kernel
theorem dX12_givesOf_44 : decode cX12_givesOf 44 = .ok (.iload_n 1, 1) := by decide +kernel
theorem dX12_givesOf_45 : decode cX12_givesOf 45 = .ok (.iaload, 1) := by decide +kernel
theorem dX12_givesOf_46 : decode cX12_givesOf 46 = .ok (.if_icmp .ne 7, 3) := by decide +kernel
theorem dX12_givesOf_49 : decode cX12_givesOf 49 = .ok (.iconst 1, 1) := by decide +kernel
theorem dX12_givesOf_50 : decode cX12_givesOf 50 = .ok (.goto 4, 3) := by decide +kernel
theorem dX12_givesOf_53 : decode cX12_givesOf 53 = .ok (.iconst 0, 1) := by decide +kernel
theorem dX12_givesOf_54 : decode cX12_givesOf 54 = .ok (.iadd, 1) := by decide +kernel
theorem dX12_givesOf_55 : decode cX12_givesOf 55 = .ok (.istore_n 3, 1) := by decide +kernel
theorem dX12_givesOf_56 : decode cX12_givesOf 56 = .ok (.iinc 4 1, 3) := by decide +kernel
theorem dX12_givesOf_59 : decode cX12_givesOf 59 = .ok (.goto (-42), 3) := by decide +kernel
theorem dX12_givesOf_62 : decode cX12_givesOf 62 = .ok (.aload_n 0, 1) := by decide +kernel
theorem dX12_givesOf_63 : decode cX12_givesOf 63 = .ok (.getfield 72, 3) := by decide +kernel
theorem dX12_givesOf_66 : decode cX12_givesOf 66 = .ok (.iload_n 1, 1) := by decide +kernel
theorem dX12_givesOf_67 : decode cX12_givesOf 67 = .ok (.iaload, 1) := by decide +kernel
theorem dX12_givesOf_68 : decode cX12_givesOf 68 = .ok (.iload_n 3, 1) := by decide +kernel
theorem dX12_givesOf_69 : decode cX12_givesOf 69 = .ok (.if_icmp .ge 12, 3) := by decide +kernel
theorem dX12_givesOf_72 : decode cX12_givesOf 72 = .ok (.aload_n 0, 1) := by decide +kernel
theorem dX12_givesOf_73 : decode cX12_givesOf 73 = .ok (.getfield 72, 3) := by decide +kernel
theorem dX12_givesOf_76 : decode cX12_givesOf 76 = .ok (.iload_n 1, 1) := by decide +kernel
theorem dX12_givesOf_77 : decode cX12_givesOf 77 = .ok (.iaload, 1) := by decide +kernel
theorem dX12_givesOf_78 : decode cX12_givesOf 78 = .ok (.goto 4, 3) := by decide +kernel
theorem dX12_givesOf_81 : decode cX12_givesOf 81 = .ok (.iload_n 3, 1) := by decide +kernel
theorem dX12_givesOf_82 : decode cX12_givesOf 82 = .ok (.istore 4, 2) := by decide +kernel
theorem dX12_givesOf_84 : decode cX12_givesOf 84 = .ok (.aload_n 0, 1) := by decide +kernel
theorem dX12_givesOf_85 : decode cX12_givesOf 85 = .ok (.getfield 72, 3) := by decide +kernel
theorem dX12_givesOf_88 : decode cX12_givesOf 88 = .ok (.iload_n 1, 1) := by decide +kernel
theorem dX12_givesOf_89 : decode cX12_givesOf 89 = .ok (.iaload, 1) := by decide +kernel
theorem dX12_givesOf_90 : decode cX12_givesOf 90 = .ok (.istore 5, 2) := by decide +kernel
theorem dX12_givesOf_92 : decode cX12_givesOf 92 = .ok (.aload_n 0, 1) := by decide +kernel
theorem dX12_givesOf_93 : decode cX12_givesOf 93 = .ok (.getfield 69, 3) := by decide +kernel
theorem dX12_givesOf_96 : decode cX12_givesOf 96 = .ok (.iload_n 1, 1) := by decide +kernel
theorem dX12_givesOf_97 : decode cX12_givesOf 97 = .ok (.iaload, 1) := by decide +kernel
theorem dX12_givesOf_98 : decode cX12_givesOf 98 = .ok (.tableswitch 93 1 5 #[34, 47, 54, 73, 82], 34) := by decide +kernel
theorem dX12_givesOf_132 : decode cX12_givesOf 132 = .ok (.iconst 2, 1) := by decide +kernel
theorem dX12_givesOf_133 : decode cX12_givesOf 133 = .ok (.aload_n 0, 1) := by decide +kernel
theorem dX12_givesOf_134 : decode cX12_givesOf 134 = .ok (.getfield 72, 3) := by decide +kernel
theorem dX12_givesOf_137 : decode cX12_givesOf 137 = .ok (.iload_n 1, 1) := by decide +kernel
theorem dX12_givesOf_138 : decode cX12_givesOf 138 = .ok (.iaload, 1) := by decide +kernel
theorem dX12_givesOf_139 : decode cX12_givesOf 139 = .ok (.imul, 1) := by decide +kernel
theorem dX12_givesOf_140 : decode cX12_givesOf 140 = .ok (.istore 5, 2) := by decide +kernel
theorem dX12_givesOf_142 : decode cX12_givesOf 142 = .ok (.goto 49, 3) := by decide +kernel
theorem dX12_givesOf_145 : decode cX12_givesOf 145 = .ok (.iload 4, 2) := by decide +kernel
theorem dX12_givesOf_147 : decode cX12_givesOf 147 = .ok (.istore 5, 2) := by decide +kernel
theorem dX12_givesOf_149 : decode cX12_givesOf 149 = .ok (.goto 42, 3) := by decide +kernel
theorem dX12_givesOf_152 : decode cX12_givesOf 152 = .ok (.aload_n 0, 1) := by decide +kernel
theorem dX12_givesOf_153 : decode cX12_givesOf 153 = .ok (.getfield 72, 3) := by decide +kernel
theorem dX12_givesOf_156 : decode cX12_givesOf 156 = .ok (.iload_n 1, 1) := by decide +kernel
theorem dX12_givesOf_157 : decode cX12_givesOf 157 = .ok (.iaload, 1) := by decide +kernel
theorem dX12_givesOf_158 : decode cX12_givesOf 158 = .ok (.aload_n 0, 1) := by decide +kernel
theorem dX12_givesOf_159 : decode cX12_givesOf 159 = .ok (.iload_n 2, 1) := by decide +kernel
theorem dX12_givesOf_160 : decode cX12_givesOf 160 = .ok (.invokevirtual 193, 3) := by decide +kernel
theorem dX12_givesOf_163 : decode cX12_givesOf 163 = .ok (.iconst 5, 1) := by decide +kernel
theorem dX12_givesOf_164 : decode cX12_givesOf 164 = .ok (.idiv, 1) := by decide +kernel
theorem dX12_givesOf_165 : decode cX12_givesOf 165 = .ok (.iadd, 1) := by decide +kernel
theorem dX12_givesOf_166 : decode cX12_givesOf 166 = .ok (.istore 5, 2) := by decide +kernel
theorem dX12_givesOf_168 : decode cX12_givesOf 168 = .ok (.goto 23, 3) := by decide +kernel
theorem dX12_givesOf_171 : decode cX12_givesOf 171 = .ok (.iload 4, 2) := by decide +kernel
theorem dX12_givesOf_173 : decode cX12_givesOf 173 = .ok (.iconst 1, 1) := by decide +kernel
theorem dX12_givesOf_174 : decode cX12_givesOf 174 = .ok (.iadd, 1) := by decide +kernel
theorem dX12_givesOf_175 : decode cX12_givesOf 175 = .ok (.istore 5, 2) := by decide +kernel
theorem dX12_givesOf_177 : decode cX12_givesOf 177 = .ok (.goto 14, 3) := by decide +kernel
theorem dX12_givesOf_180 : decode cX12_givesOf 180 = .ok (.iconst 2, 1) := by decide +kernel
theorem dX12_givesOf_181 : decode cX12_givesOf 181 = .ok (.iload 4, 2) := by decide +kernel
theorem dX12_givesOf_183 : decode cX12_givesOf 183 = .ok (.iconst 1, 1) := by decide +kernel
theorem dX12_givesOf_184 : decode cX12_givesOf 184 = .ok (.iadd, 1) := by decide +kernel
theorem dX12_givesOf_185 : decode cX12_givesOf 185 = .ok (.imul, 1) := by decide +kernel
theorem dX12_givesOf_186 : decode cX12_givesOf 186 = .ok (.istore 5, 2) := by decide +kernel
theorem dX12_givesOf_188 : decode cX12_givesOf 188 = .ok (.goto 3, 3) := by decide +kernel
theorem dX12_givesOf_191 : decode cX12_givesOf 191 = .ok (.iload 5, 2) := by decide +kernel
theorem dX12_givesOf_193 : decode cX12_givesOf 193 = .ok (.aload_n 0, 1) := by decide +kernel
theorem dX12_givesOf_194 : decode cX12_givesOf 194 = .ok (.iload_n 2, 1) := by decide +kernel
theorem dX12_givesOf_195 : decode cX12_givesOf 195 = .ok (.invokevirtual 161, 3) := by decide +kernel
theorem dX12_givesOf_198 : decode cX12_givesOf 198 = .ok (.if_icmp .ge 8, 3) := by decide +kernel
theorem dX12_givesOf_201 : decode cX12_givesOf 201 = .ok (.iload 5, 2) := by decide +kernel
theorem dX12_givesOf_203 : decode cX12_givesOf 203 = .ok (.goto 8, 3) := by decide +kernel
theorem dX12_givesOf_206 : decode cX12_givesOf 206 = .ok (.aload_n 0, 1) := by decide +kernel
theorem dX12_givesOf_207 : decode cX12_givesOf 207 = .ok (.iload_n 2, 1) := by decide +kernel
theorem dX12_givesOf_208 : decode cX12_givesOf 208 = .ok (.invokevirtual 161, 3) := by decide +kernel
theorem dX12_givesOf_211 : decode cX12_givesOf 211 = .ok (.ireturn, 1) := by decide +kernel
theorem dX12_gives_0 : decode cX12_gives 0 = .ok (.aload_n 0, 1) := by decide +kernel
theorem dX12_gives_1 : decode cX12_gives 1 = .ok (.iload_n 1, 1) := by decide +kernel
theorem dX12_gives_2 : decode cX12_gives 2 = .ok (.invokevirtual 218, 3) := by decide +kernel
theorem dX12_gives_5 : decode cX12_gives 5 = .ok (.ifCond .eq 20, 3) := by decide +kernel
theorem dX12_gives_8 : decode cX12_gives 8 = .ok (.aload_n 0, 1) := by decide +kernel
theorem dX12_gives_9 : decode cX12_gives 9 = .ok (.iload_n 2, 1) := by decide +kernel
theorem dX12_gives_10 : decode cX12_gives 10 = .ok (.invokevirtual 157, 3) := by decide +kernel
theorem dX12_gives_13 : decode cX12_gives 13 = .ok (.ifCond .eq 12, 3) := by decide +kernel
theorem dX12_gives_16 : decode cX12_gives 16 = .ok (.aload_n 0, 1) := by decide +kernel
theorem dX12_gives_17 : decode cX12_gives 17 = .ok (.iload_n 1, 1) := by decide +kernel
theorem dX12_gives_18 : decode cX12_gives 18 = .ok (.iload_n 2, 1) := by decide +kernel
theorem dX12_gives_19 : decode cX12_gives 19 = .ok (.invokevirtual 221, 3) := by decide +kernel
theorem dX12_gives_22 : decode cX12_gives 22 = .ok (.goto 5, 3) := by decide +kernel
theorem dX12_gives_25 : decode cX12_gives 25 = .ok (.bipush (-2), 2) := by decide +kernel
theorem dX12_gives_27 : decode cX12_gives 27 = .ok (.ireturn, 1) := by decide +kernel
theorem dX12_countsOf_0 : decode cX12_countsOf 0 = .ok (.aload_n 0, 1) := by decide +kernel
theorem dX12_countsOf_1 : decode cX12_countsOf 1 = .ok (.getfield 69, 3) := by decide +kernel
theorem dX12_countsOf_4 : decode cX12_countsOf 4 = .ok (.iload_n 1, 1) := by decide +kernel
theorem dX12_countsOf_5 : decode cX12_countsOf 5 = .ok (.iaload, 1) := by decide +kernel
theorem dX12_countsOf_6 : decode cX12_countsOf 6 = .ok (.iconst 1, 1) := by decide +kernel
theorem dX12_countsOf_7 : decode cX12_countsOf 7 = .ok (.if_icmp .eq 13, 3) := by decide +kernel
theorem dX12_countsOf_10 : decode cX12_countsOf 10 = .ok (.aload_n 0, 1) := by decide +kernel
theorem dX12_countsOf_11 : decode cX12_countsOf 11 = .ok (.getfield 69, 3) := by decide +kernel
theorem dX12_countsOf_14 : decode cX12_countsOf 14 = .ok (.iload_n 1, 1) := by decide +kernel
theorem dX12_countsOf_15 : decode cX12_countsOf 15 = .ok (.iaload, 1) := by decide +kernel
theorem dX12_countsOf_16 : decode cX12_countsOf 16 = .ok (.iconst 4, 1) := by decide +kernel
theorem dX12_countsOf_17 : decode cX12_countsOf 17 = .ok (.if_icmp .ne 7, 3) := by decide +kernel
theorem dX12_countsOf_20 : decode cX12_countsOf 20 = .ok (.iconst 2, 1) := by decide +kernel
theorem dX12_countsOf_21 : decode cX12_countsOf 21 = .ok (.goto 28, 3) := by decide +kernel
theorem dX12_countsOf_24 : decode cX12_countsOf 24 = .ok (.aload_n 0, 1) := by decide +kernel
theorem dX12_countsOf_25 : decode cX12_countsOf 25 = .ok (.getfield 69, 3) := by decide +kernel
theorem dX12_countsOf_28 : decode cX12_countsOf 28 = .ok (.iload_n 1, 1) := by decide +kernel
theorem dX12_countsOf_29 : decode cX12_countsOf 29 = .ok (.iaload, 1) := by decide +kernel
theorem dX12_countsOf_30 : decode cX12_countsOf 30 = .ok (.iconst 3, 1) := by decide +kernel
theorem dX12_countsOf_31 : decode cX12_countsOf 31 = .ok (.if_icmp .eq 13, 3) := by decide +kernel
theorem dX12_countsOf_34 : decode cX12_countsOf 34 = .ok (.aload_n 0, 1) := by decide +kernel
theorem dX12_countsOf_35 : decode cX12_countsOf 35 = .ok (.getfield 69, 3) := by decide +kernel
theorem dX12_countsOf_38 : decode cX12_countsOf 38 = .ok (.iload_n 1, 1) := by decide +kernel
theorem dX12_countsOf_39 : decode cX12_countsOf 39 = .ok (.iaload, 1) := by decide +kernel
theorem dX12_countsOf_40 : decode cX12_countsOf 40 = .ok (.iconst 5, 1) := by decide +kernel
theorem dX12_countsOf_41 : decode cX12_countsOf 41 = .ok (.if_icmp .ne 7, 3) := by decide +kernel
theorem dX12_countsOf_44 : decode cX12_countsOf 44 = .ok (.iconst 4, 1) := by decide +kernel
theorem dX12_countsOf_45 : decode cX12_countsOf 45 = .ok (.goto 4, 3) := by decide +kernel
theorem dX12_countsOf_48 : decode cX12_countsOf 48 = .ok (.iconst 1, 1) := by decide +kernel
theorem dX12_countsOf_49 : decode cX12_countsOf 49 = .ok (.ireturn, 1) := by decide +kernel
theorem dX12_counts_0 : decode cX12_counts 0 = .ok (.aload_n 0, 1) := by decide +kernel
theorem dX12_counts_1 : decode cX12_counts 1 = .ok (.iload_n 1, 1) := by decide +kernel
theorem dX12_counts_2 : decode cX12_counts 2 = .ok (.invokevirtual 218, 3) := by decide +kernel
theorem dX12_counts_5 : decode cX12_counts 5 = .ok (.ifCond .eq 11, 3) := by decide +kernel
theorem dX12_counts_8 : decode cX12_counts 8 = .ok (.aload_n 0, 1) := by decide +kernel
theorem dX12_counts_9 : decode cX12_counts 9 = .ok (.iload_n 1, 1) := by decide +kernel
theorem dX12_counts_10 : decode cX12_counts 10 = .ok (.invokevirtual 224, 3) := by decide +kernel
theorem dX12_counts_13 : decode cX12_counts 13 = .ok (.goto 5, 3) := by decide +kernel
theorem dX12_counts_16 : decode cX12_counts 16 = .ok (.bipush (-2), 2) := by decide +kernel
theorem dX12_counts_18 : decode cX12_counts 18 = .ok (.ireturn, 1) := by decide +kernel
theorem dX12_boundOf_0 : decode cX12_boundOf 0 = .ok (.iconst 0, 1) := by decide +kernel
theorem dX12_boundOf_1 : decode cX12_boundOf 1 = .ok (.istore_n 2, 1) := by decide +kernel
theorem dX12_boundOf_2 : decode cX12_boundOf 2 = .ok (.iconst 0, 1) := by decide +kernel
theorem dX12_boundOf_3 : decode cX12_boundOf 3 = .ok (.istore_n 3, 1) := by decide +kernel
theorem dX12_boundOf_4 : decode cX12_boundOf 4 = .ok (.iload_n 3, 1) := by decide +kernel
theorem dX12_boundOf_5 : decode cX12_boundOf 5 = .ok (.aload_n 0, 1) := by decide +kernel
theorem dX12_boundOf_6 : decode cX12_boundOf 6 = .ok (.getfield 213, 3) := by decide +kernel
theorem dX12_boundOf_9 : decode cX12_boundOf 9 = .ok (.if_icmp .ge 18, 3) := by decide +kernel
theorem dX12_boundOf_12 : decode cX12_boundOf 12 = .ok (.iload_n 2, 1) := by decide +kernel
theorem dX12_boundOf_13 : decode cX12_boundOf 13 = .ok (.aload_n 0, 1) := by decide +kernel
theorem dX12_boundOf_14 : decode cX12_boundOf 14 = .ok (.iload_n 3, 1) := by decide +kernel
theorem dX12_boundOf_15 : decode cX12_boundOf 15 = .ok (.iload_n 1, 1) := by decide +kernel
theorem dX12_boundOf_16 : decode cX12_boundOf 16 = .ok (.invokevirtual 221, 3) := by decide +kernel
theorem dX12_boundOf_19 : decode cX12_boundOf 19 = .ok (.iadd, 1) := by decide +kernel
theorem dX12_boundOf_20 : decode cX12_boundOf 20 = .ok (.istore_n 2, 1) := by decide +kernel
theorem dX12_boundOf_21 : decode cX12_boundOf 21 = .ok (.iinc 3 1, 3) := by decide +kernel
theorem dX12_boundOf_24 : decode cX12_boundOf 24 = .ok (.goto (-20), 3) := by decide +kernel
theorem dX12_boundOf_27 : decode cX12_boundOf 27 = .ok (.iload_n 2, 1) := by decide +kernel
theorem dX12_boundOf_28 : decode cX12_boundOf 28 = .ok (.aload_n 0, 1) := by decide +kernel
theorem dX12_boundOf_29 : decode cX12_boundOf 29 = .ok (.iload_n 1, 1) := by decide +kernel
theorem dX12_boundOf_30 : decode cX12_boundOf 30 = .ok (.invokevirtual 161, 3) := by decide +kernel
theorem dX12_boundOf_33 : decode cX12_boundOf 33 = .ok (.if_icmp .ge 7, 3) := by decide +kernel
theorem dX12_boundOf_36 : decode cX12_boundOf 36 = .ok (.iload_n 2, 1) := by decide +kernel
theorem dX12_boundOf_37 : decode cX12_boundOf 37 = .ok (.goto 8, 3) := by decide +kernel
theorem dX12_boundOf_40 : decode cX12_boundOf 40 = .ok (.aload_n 0, 1) := by decide +kernel
theorem dX12_boundOf_41 : decode cX12_boundOf 41 = .ok (.iload_n 1, 1) := by decide +kernel
theorem dX12_boundOf_42 : decode cX12_boundOf 42 = .ok (.invokevirtual 161, 3) := by decide +kernel
theorem dX12_boundOf_45 : decode cX12_boundOf 45 = .ok (.ireturn, 1) := by decide +kernel
theorem dX12_screen_0 : decode cX12_screen 0 = .ok (.iload_n 1, 1) := by decide +kernel
theorem dX12_screen_1 : decode cX12_screen 1 = .ok (.i2l, 1) := by decide +kernel
theorem dX12_screen_2 : decode cX12_screen 2 = .ok (.lconst 1, 1) := by decide +kernel
theorem dX12_screen_3 : decode cX12_screen 3 = .ok (.ldc2_w 227, 3) := by decide +kernel
theorem dX12_screen_6 : decode cX12_screen 6 = .ok (.invokestatic 142, 3) := by decide +kernel
theorem dX12_screen_9 : decode cX12_screen 9 = .ok (.ifCond .eq 15, 3) := by decide +kernel
theorem dX12_screen_12 : decode cX12_screen 12 = .ok (.iload_n 2, 1) := by decide +kernel
theorem dX12_screen_13 : decode cX12_screen 13 = .ok (.i2l, 1) := by decide +kernel
theorem dX12_screen_14 : decode cX12_screen 14 = .ok (.lconst 0, 1) := by decide +kernel
theorem dX12_screen_15 : decode cX12_screen 15 = .ok (.ldc2_w 229, 3) := by decide +kernel
theorem dX12_screen_18 : decode cX12_screen 18 = .ok (.invokestatic 142, 3) := by decide +kernel
theorem dX12_screen_21 : decode cX12_screen 21 = .ok (.ifCond .ne 6, 3) := by decide +kernel
theorem dX12_screen_24 : decode cX12_screen 24 = .ok (.bipush (-2), 2) := by decide +kernel
theorem dX12_screen_26 : decode cX12_screen 26 = .ok (.ireturn, 1) := by decide +kernel
theorem dX12_screen_27 : decode cX12_screen 27 = .ok (.aload_n 0, 1) := by decide +kernel
theorem dX12_screen_28 : decode cX12_screen 28 = .ok (.getfield 231, 3) := by decide +kernel
theorem dX12_screen_31 : decode cX12_screen 31 = .ok (.bipush 6, 2) := by decide +kernel
theorem dX12_screen_33 : decode cX12_screen 33 = .ok (.if_icmp .ne 6, 3) := by decide +kernel
theorem dX12_screen_36 : decode cX12_screen 36 = .ok (.bipush (-4), 2) := by decide +kernel
theorem dX12_screen_38 : decode cX12_screen 38 = .ok (.ireturn, 1) := by decide +kernel
theorem dX12_screen_39 : decode cX12_screen 39 = .ok (.aload_n 0, 1) := by decide +kernel
theorem dX12_screen_40 : decode cX12_screen 40 = .ok (.getfield 81, 3) := by decide +kernel
theorem dX12_screen_43 : decode cX12_screen 43 = .ok (.aload_n 0, 1) := by decide +kernel
theorem dX12_screen_44 : decode cX12_screen 44 = .ok (.getfield 231, 3) := by decide +kernel
theorem dX12_screen_47 : decode cX12_screen 47 = .ok (.iload_n 1, 1) := by decide +kernel
theorem dX12_screen_48 : decode cX12_screen 48 = .ok (.iastore, 1) := by decide +kernel
theorem dX12_screen_49 : decode cX12_screen 49 = .ok (.aload_n 0, 1) := by decide +kernel
theorem dX12_screen_50 : decode cX12_screen 50 = .ok (.getfield 84, 3) := by decide +kernel
theorem dX12_screen_53 : decode cX12_screen 53 = .ok (.aload_n 0, 1) := by decide +kernel
theorem dX12_screen_54 : decode cX12_screen 54 = .ok (.getfield 231, 3) := by decide +kernel
theorem dX12_screen_57 : decode cX12_screen 57 = .ok (.iload_n 2, 1) := by decide +kernel
theorem dX12_screen_58 : decode cX12_screen 58 = .ok (.iastore, 1) := by decide +kernel
theorem dX12_screen_59 : decode cX12_screen 59 = .ok (.aload_n 0, 1) := by decide +kernel
theorem dX12_screen_60 : decode cX12_screen 60 = .ok (.dup, 1) := by decide +kernel
theorem dX12_screen_61 : decode cX12_screen 61 = .ok (.getfield 231, 3) := by decide +kernel
theorem dX12_screen_64 : decode cX12_screen 64 = .ok (.iconst 1, 1) := by decide +kernel
theorem dX12_screen_65 : decode cX12_screen 65 = .ok (.iadd, 1) := by decide +kernel
theorem dX12_screen_66 : decode cX12_screen 66 = .ok (.putfield 231, 3) := by decide +kernel
theorem dX12_screen_69 : decode cX12_screen 69 = .ok (.aload_n 0, 1) := by decide +kernel
theorem dX12_screen_70 : decode cX12_screen 70 = .ok (.getfield 231, 3) := by decide +kernel
theorem dX12_screen_73 : decode cX12_screen 73 = .ok (.iconst 1, 1) := by decide +kernel
theorem dX12_screen_74 : decode cX12_screen 74 = .ok (.isub, 1) := by decide +kernel
theorem dX12_screen_75 : decode cX12_screen 75 = .ok (.ireturn, 1) := by decide +kernel
theorem dX12_kindsBy_0 : decode cX12_kindsBy 0 = .ok (.iconst 0, 1) := by decide +kernel
theorem dX12_kindsBy_1 : decode cX12_kindsBy 1 = .ok (.istore_n 2, 1) := by decide +kernel
theorem dX12_kindsBy_2 : decode cX12_kindsBy 2 = .ok (.iconst 0, 1) := by decide +kernel
theorem dX12_kindsBy_3 : decode cX12_kindsBy 3 = .ok (.istore_n 3, 1) := by decide +kernel
theorem dX12_kindsBy_4 : decode cX12_kindsBy 4 = .ok (.iload_n 3, 1) := by decide +kernel
theorem dX12_kindsBy_5 : decode cX12_kindsBy 5 = .ok (.aload_n 0, 1) := by decide +kernel
theorem dX12_kindsBy_6 : decode cX12_kindsBy 6 = .ok (.getfield 231, 3) := by decide +kernel
theorem dX12_kindsBy_9 : decode cX12_kindsBy 9 = .ok (.if_icmp .ge 31, 3) := by decide +kernel
theorem dX12_kindsBy_12 : decode cX12_kindsBy 12 = .ok (.iload_n 2, 1) := by decide +kernel
theorem dX12_kindsBy_13 : decode cX12_kindsBy 13 = .ok (.iload_n 1, 1) := by decide +kernel
theorem dX12_kindsBy_14 : decode cX12_kindsBy 14 = .ok (.iload_n 3, 1) := by decide +kernel
theorem dX12_kindsBy_15 : decode cX12_kindsBy 15 = .ok (.ishr, 1) := by decide +kernel
theorem dX12_kindsBy_16 : decode cX12_kindsBy 16 = .ok (.iconst 1, 1) := by decide +kernel
theorem dX12_kindsBy_17 : decode cX12_kindsBy 17 = .ok (.iand, 1) := by decide +kernel
theorem dX12_kindsBy_18 : decode cX12_kindsBy 18 = .ok (.iconst 1, 1) := by decide +kernel
theorem dX12_kindsBy_19 : decode cX12_kindsBy 19 = .ok (.if_icmp .ne 12, 3) := by decide +kernel
theorem dX12_kindsBy_22 : decode cX12_kindsBy 22 = .ok (.aload_n 0, 1) := by decide +kernel
theorem dX12_kindsBy_23 : decode cX12_kindsBy 23 = .ok (.getfield 84, 3) := by decide +kernel
theorem dX12_kindsBy_26 : decode cX12_kindsBy 26 = .ok (.iload_n 3, 1) := by decide +kernel
theorem dX12_kindsBy_27 : decode cX12_kindsBy 27 = .ok (.iaload, 1) := by decide +kernel
theorem dX12_kindsBy_28 : decode cX12_kindsBy 28 = .ok (.goto 4, 3) := by decide +kernel
theorem dX12_kindsBy_31 : decode cX12_kindsBy 31 = .ok (.iconst 0, 1) := by decide +kernel
theorem dX12_kindsBy_32 : decode cX12_kindsBy 32 = .ok (.ior, 1) := by decide +kernel
theorem dX12_kindsBy_33 : decode cX12_kindsBy 33 = .ok (.istore_n 2, 1) := by decide +kernel
theorem dX12_kindsBy_34 : decode cX12_kindsBy 34 = .ok (.iinc 3 1, 3) := by decide +kernel
theorem dX12_kindsBy_37 : decode cX12_kindsBy 37 = .ok (.goto (-33), 3) := by decide +kernel
theorem dX12_kindsBy_40 : decode cX12_kindsBy 40 = .ok (.iload_n 2, 1) := by decide +kernel
theorem dX12_kindsBy_41 : decode cX12_kindsBy 41 = .ok (.ireturn, 1) := by decide +kernel
theorem dX12_plan_0 : decode cX12_plan 0 = .ok (.iload_n 1, 1) := by decide +kernel
theorem dX12_plan_1 : decode cX12_plan 1 = .ok (.i2l, 1) := by decide +kernel
theorem dX12_plan_2 : decode cX12_plan 2 = .ok (.lconst 0, 1) := by decide +kernel
theorem dX12_plan_3 : decode cX12_plan 3 = .ok (.iconst 1, 1) := by decide +kernel
theorem dX12_plan_4 : decode cX12_plan 4 = .ok (.aload_n 0, 1) := by decide +kernel
theorem dX12_plan_5 : decode cX12_plan 5 = .ok (.getfield 213, 3) := by decide +kernel
theorem dX12_plan_8 : decode cX12_plan 8 = .ok (.ishl, 1) := by decide +kernel
theorem dX12_plan_9 : decode cX12_plan 9 = .ok (.iconst 1, 1) := by decide +kernel
theorem dX12_plan_10 : decode cX12_plan 10 = .ok (.isub, 1) := by decide +kernel
theorem dX12_plan_11 : decode cX12_plan 11 = .ok (.i2l, 1) := by decide +kernel
theorem dX12_plan_12 : decode cX12_plan 12 = .ok (.invokestatic 142, 3) := by decide +kernel
theorem dX12_plan_15 : decode cX12_plan 15 = .ok (.ifCond .eq 13, 3) := by decide +kernel
theorem dX12_plan_18 : decode cX12_plan 18 = .ok (.iload_n 2, 1) := by decide +kernel
theorem dX12_plan_19 : decode cX12_plan 19 = .ok (.i2l, 1) := by decide +kernel
theorem dX12_plan_20 : decode cX12_plan 20 = .ok (.lconst 0, 1) := by decide +kernel
theorem dX12_plan_21 : decode cX12_plan 21 = .ok (.lconst 1, 1) := by decide +kernel
theorem dX12_plan_22 : decode cX12_plan 22 = .ok (.invokestatic 142, 3) := by decide +kernel
theorem dX12_plan_25 : decode cX12_plan 25 = .ok (.ifCond .ne 6, 3) := by decide +kernel
theorem dX12_plan_28 : decode cX12_plan 28 = .ok (.bipush (-2), 2) := by decide +kernel
theorem dX12_plan_30 : decode cX12_plan 30 = .ok (.ireturn, 1) := by decide +kernel
theorem dX12_plan_31 : decode cX12_plan 31 = .ok (.iconst 0, 1) := by decide +kernel
theorem dX12_plan_32 : decode cX12_plan 32 = .ok (.istore_n 3, 1) := by decide +kernel
theorem dX12_plan_33 : decode cX12_plan 33 = .ok (.iconst 0, 1) := by decide +kernel
theorem dX12_plan_34 : decode cX12_plan 34 = .ok (.istore 4, 2) := by decide +kernel
theorem dX12_plan_36 : decode cX12_plan 36 = .ok (.iload 4, 2) := by decide +kernel
theorem dX12_plan_38 : decode cX12_plan 38 = .ok (.aload_n 0, 1) := by decide +kernel
theorem dX12_plan_39 : decode cX12_plan 39 = .ok (.getfield 213, 3) := by decide +kernel
theorem dX12_plan_42 : decode cX12_plan 42 = .ok (.if_icmp .ge 35, 3) := by decide +kernel
theorem dX12_plan_45 : decode cX12_plan 45 = .ok (.iload_n 3, 1) := by decide +kernel
theorem dX12_plan_46 : decode cX12_plan 46 = .ok (.iload_n 1, 1) := by decide +kernel
theorem dX12_plan_47 : decode cX12_plan 47 = .ok (.iload 4, 2) := by decide +kernel
theorem dX12_plan_49 : decode cX12_plan 49 = .ok (.ishr, 1) := by decide +kernel
theorem dX12_plan_50 : decode cX12_plan 50 = .ok (.iconst 1, 1) := by decide +kernel
theorem dX12_plan_51 : decode cX12_plan 51 = .ok (.iand, 1) := by decide +kernel
theorem dX12_plan_52 : decode cX12_plan 52 = .ok (.iconst 1, 1) := by decide +kernel
theorem dX12_plan_53 : decode cX12_plan 53 = .ok (.if_icmp .ne 15, 3) := by decide +kernel
theorem dX12_plan_56 : decode cX12_plan 56 = .ok (.iconst 1, 1) := by decide +kernel
theorem dX12_plan_57 : decode cX12_plan 57 = .ok (.aload_n 0, 1) := by decide +kernel
theorem dX12_plan_58 : decode cX12_plan 58 = .ok (.getfield 69, 3) := by decide +kernel
theorem dX12_plan_61 : decode cX12_plan 61 = .ok (.iload 4, 2) := by decide +kernel
theorem dX12_plan_63 : decode cX12_plan 63 = .ok (.iaload, 1) := by decide +kernel
theorem dX12_plan_64 : decode cX12_plan 64 = .ok (.ishl, 1) := by decide +kernel
theorem dX12_plan_65 : decode cX12_plan 65 = .ok (.goto 4, 3) := by decide +kernel
theorem dX12_plan_68 : decode cX12_plan 68 = .ok (.iconst 0, 1) := by decide +kernel
theorem dX12_plan_69 : decode cX12_plan 69 = .ok (.ior, 1) := by decide +kernel
theorem dX12_plan_70 : decode cX12_plan 70 = .ok (.istore_n 3, 1) := by decide +kernel
theorem dX12_plan_71 : decode cX12_plan 71 = .ok (.iinc 4 1, 3) := by decide +kernel
theorem dX12_plan_74 : decode cX12_plan 74 = .ok (.goto (-38), 3) := by decide +kernel
theorem dX12_plan_77 : decode cX12_plan 77 = .ok (.iconst (-1), 1) := by decide +kernel
theorem dX12_plan_78 : decode cX12_plan 78 = .ok (.istore 4, 2) := by decide +kernel
theorem dX12_plan_80 : decode cX12_plan 80 = .ok (.iconst 0, 1) := by decide +kernel
theorem dX12_plan_81 : decode cX12_plan 81 = .ok (.istore 5, 2) := by decide +kernel
theorem dX12_plan_83 : decode cX12_plan 83 = .ok (.iconst 0, 1) := by decide +kernel
theorem dX12_plan_84 : decode cX12_plan 84 = .ok (.istore 6, 2) := by decide +kernel
theorem dX12_plan_86 : decode cX12_plan 86 = .ok (.iload 6, 2) := by decide +kernel
theorem dX12_plan_88 : decode cX12_plan 88 = .ok (.iconst 1, 1) := by decide +kernel
theorem dX12_plan_89 : decode cX12_plan 89 = .ok (.aload_n 0, 1) := by decide +kernel
theorem dX12_plan_90 : decode cX12_plan 90 = .ok (.getfield 231, 3) := by decide +kernel
theorem dX12_plan_93 : decode cX12_plan 93 = .ok (.ishl, 1) := by decide +kernel
theorem dX12_plan_94 : decode cX12_plan 94 = .ok (.if_icmp .ge 94, 3) := by decide +kernel
theorem dX12_plan_97 : decode cX12_plan 97 = .ok (.iconst 0, 1) := by decide +kernel
theorem dX12_plan_98 : decode cX12_plan 98 = .ok (.istore 7, 2) := by decide +kernel
theorem dX12_plan_100 : decode cX12_plan 100 = .ok (.iconst 0, 1) := by decide +kernel
theorem dX12_plan_101 : decode cX12_plan 101 = .ok (.istore 8, 2) := by decide +kernel
theorem dX12_plan_103 : decode cX12_plan 103 = .ok (.iload 8, 2) := by decide +kernel
theorem dX12_plan_105 : decode cX12_plan 105 = .ok (.aload_n 0, 1) := by decide +kernel
theorem dX12_plan_106 : decode cX12_plan 106 = .ok (.getfield 231, 3) := by decide +kernel
theorem dX12_plan_109 : decode cX12_plan 109 = .ok (.if_icmp .ge 36, 3) := by decide +kernel
theorem dX12_plan_112 : decode cX12_plan 112 = .ok (.iload 7, 2) := by decide +kernel
theorem dX12_plan_114 : decode cX12_plan 114 = .ok (.iload 6, 2) := by decide +kernel
theorem dX12_plan_116 : decode cX12_plan 116 = .ok (.iload 8, 2) := by decide +kernel
theorem dX12_plan_118 : decode cX12_plan 118 = .ok (.ishr, 1) := by decide +kernel
theorem dX12_plan_119 : decode cX12_plan 119 = .ok (.iconst 1, 1) := by decide +kernel
theorem dX12_plan_120 : decode cX12_plan 120 = .ok (.iand, 1) := by decide +kernel
theorem dX12_plan_121 : decode cX12_plan 121 = .ok (.iconst 1, 1) := by decide +kernel
theorem dX12_plan_122 : decode cX12_plan 122 = .ok (.if_icmp .ne 13, 3) := by decide +kernel
theorem dX12_plan_125 : decode cX12_plan 125 = .ok (.aload_n 0, 1) := by decide +kernel
theorem dX12_plan_126 : decode cX12_plan 126 = .ok (.getfield 81, 3) := by decide +kernel
theorem dX12_plan_129 : decode cX12_plan 129 = .ok (.iload 8, 2) := by decide +kernel
theorem dX12_plan_131 : decode cX12_plan 131 = .ok (.iaload, 1) := by decide +kernel
theorem dX12_plan_132 : decode cX12_plan 132 = .ok (.goto 4, 3) := by decide +kernel
theorem dX12_plan_135 : decode cX12_plan 135 = .ok (.iconst 0, 1) := by decide +kernel
theorem dX12_plan_136 : decode cX12_plan 136 = .ok (.iadd, 1) := by decide +kernel
theorem dX12_plan_137 : decode cX12_plan 137 = .ok (.istore 7, 2) := by decide +kernel
theorem dX12_plan_139 : decode cX12_plan 139 = .ok (.iinc 8 1, 3) := by decide +kernel
theorem dX12_plan_142 : decode cX12_plan 142 = .ok (.goto (-39), 3) := by decide +kernel
theorem dX12_plan_145 : decode cX12_plan 145 = .ok (.iload_n 3, 1) := by decide +kernel
theorem dX12_plan_146 : decode cX12_plan 146 = .ok (.aload_n 0, 1) := by decide +kernel
theorem dX12_plan_147 : decode cX12_plan 147 = .ok (.iload 6, 2) := by decide +kernel
theorem dX12_plan_149 : decode cX12_plan 149 = .ok (.invokevirtual 234, 3) := by decide +kernel
theorem dX12_plan_152 : decode cX12_plan 152 = .ok (.iconst (-1), 1) := by decide +kernel
theorem dX12_plan_153 : decode cX12_plan 153 = .ok (.ixor, 1) := by decide +kernel
theorem dX12_plan_154 : decode cX12_plan 154 = .ok (.iand, 1) := by decide +kernel
theorem dX12_plan_155 : decode cX12_plan 155 = .ok (.ifCond .ne 27, 3) := by decide +kernel
theorem dX12_plan_158 : decode cX12_plan 158 = .ok (.iload 4, 2) := by decide +kernel
theorem dX12_plan_160 : decode cX12_plan 160 = .ok (.iconst (-1), 1) := by decide +kernel
theorem dX12_plan_161 : decode cX12_plan 161 = .ok (.if_icmp .eq 13, 3) := by decide +kernel
theorem dX12_plan_164 : decode cX12_plan 164 = .ok (.iload 7, 2) := by decide +kernel
theorem dX12_plan_166 : decode cX12_plan 166 = .ok (.iload 5, 2) := by decide +kernel
theorem dX12_plan_168 : decode cX12_plan 168 = .ok (.if_icmp .lt 6, 3) := by decide +kernel
theorem dX12_plan_171 : decode cX12_plan 171 = .ok (.goto 11, 3) := by decide +kernel
theorem dX12_plan_174 : decode cX12_plan 174 = .ok (.iload 6, 2) := by decide +kernel
theorem dX12_plan_176 : decode cX12_plan 176 = .ok (.istore 4, 2) := by decide +kernel
theorem dX12_plan_178 : decode cX12_plan 178 = .ok (.iload 7, 2) := by decide +kernel
theorem dX12_plan_180 : decode cX12_plan 180 = .ok (.istore 5, 2) := by decide +kernel
theorem dX12_plan_182 : decode cX12_plan 182 = .ok (.iinc 6 1, 3) := by decide +kernel
theorem dX12_plan_185 : decode cX12_plan 185 = .ok (.goto (-99), 3) := by decide +kernel
theorem dX12_plan_188 : decode cX12_plan 188 = .ok (.iload 4, 2) := by decide +kernel
theorem dX12_plan_190 : decode cX12_plan 190 = .ok (.iconst (-1), 1) := by decide +kernel
theorem dX12_plan_191 : decode cX12_plan 191 = .ok (.if_icmp .eq 7, 3) := by decide +kernel
theorem dX12_plan_194 : decode cX12_plan 194 = .ok (.iload_n 2, 1) := by decide +kernel
theorem dX12_plan_195 : decode cX12_plan 195 = .ok (.ifCond .ne 8, 3) := by decide +kernel
theorem dX12_plan_198 : decode cX12_plan 198 = .ok (.iload 4, 2) := by decide +kernel
theorem dX12_plan_200 : decode cX12_plan 200 = .ok (.goto 5, 3) := by decide +kernel
theorem dX12_plan_203 : decode cX12_plan 203 = .ok (.iload 5, 2) := by decide +kernel
theorem dX12_plan_205 : decode cX12_plan 205 = .ok (.ireturn, 1) := by decide +kernel
theorem dX12_weighs_0 : decode cX12_weighs 0 = .ok (.iload_n 1, 1) := by decide +kernel
theorem dX12_weighs_1 : decode cX12_weighs 1 = .ok (.i2l, 1) := by decide +kernel
theorem dX12_weighs_2 : decode cX12_weighs 2 = .ok (.lconst 0, 1) := by decide +kernel
theorem dX12_weighs_3 : decode cX12_weighs 3 = .ok (.iconst 1, 1) := by decide +kernel
theorem dX12_weighs_4 : decode cX12_weighs 4 = .ok (.aload_n 0, 1) := by decide +kernel
theorem dX12_weighs_5 : decode cX12_weighs 5 = .ok (.getfield 231, 3) := by decide +kernel
theorem dX12_weighs_8 : decode cX12_weighs 8 = .ok (.ishl, 1) := by decide +kernel
theorem dX12_weighs_9 : decode cX12_weighs 9 = .ok (.iconst 1, 1) := by decide +kernel
theorem dX12_weighs_10 : decode cX12_weighs 10 = .ok (.isub, 1) := by decide +kernel
theorem dX12_weighs_11 : decode cX12_weighs 11 = .ok (.i2l, 1) := by decide +kernel
theorem dX12_weighs_12 : decode cX12_weighs 12 = .ok (.invokestatic 142, 3) := by decide +kernel
theorem dX12_weighs_15 : decode cX12_weighs 15 = .ok (.ifCond .ne 6, 3) := by decide +kernel
theorem dX12_weighs_18 : decode cX12_weighs 18 = .ok (.bipush (-2), 2) := by decide +kernel
theorem dX12_weighs_20 : decode cX12_weighs 20 = .ok (.ireturn, 1) := by decide +kernel
theorem dX12_weighs_21 : decode cX12_weighs 21 = .ok (.aload_n 0, 1) := by decide +kernel
theorem dX12_weighs_22 : decode cX12_weighs 22 = .ok (.iload_n 1, 1) := by decide +kernel
theorem dX12_weighs_23 : decode cX12_weighs 23 = .ok (.invokevirtual 234, 3) := by decide +kernel
theorem dX12_weighs_26 : decode cX12_weighs 26 = .ok (.istore_n 2, 1) := by decide +kernel
theorem dX12_weighs_27 : decode cX12_weighs 27 = .ok (.iconst 0, 1) := by decide +kernel
theorem dX12_weighs_28 : decode cX12_weighs 28 = .ok (.istore_n 3, 1) := by decide +kernel
theorem dX12_weighs_29 : decode cX12_weighs 29 = .ok (.iconst 0, 1) := by decide +kernel
theorem dX12_weighs_30 : decode cX12_weighs 30 = .ok (.istore 4, 2) := by decide +kernel
theorem dX12_weighs_32 : decode cX12_weighs 32 = .ok (.iload 4, 2) := by decide +kernel
theorem dX12_weighs_34 : decode cX12_weighs 34 = .ok (.aload_n 0, 1) := by decide +kernel
theorem dX12_weighs_35 : decode cX12_weighs 35 = .ok (.getfield 213, 3) := by decide +kernel
theorem dX12_weighs_38 : decode cX12_weighs 38 = .ok (.if_icmp .ge 36, 3) := by decide +kernel
theorem dX12_weighs_41 : decode cX12_weighs 41 = .ok (.iload_n 3, 1) := by decide +kernel
theorem dX12_weighs_42 : decode cX12_weighs 42 = .ok (.iload_n 2, 1) := by decide +kernel
theorem dX12_weighs_43 : decode cX12_weighs 43 = .ok (.aload_n 0, 1) := by decide +kernel
theorem dX12_weighs_44 : decode cX12_weighs 44 = .ok (.getfield 69, 3) := by decide +kernel
theorem dX12_weighs_47 : decode cX12_weighs 47 = .ok (.iload 4, 2) := by decide +kernel
theorem dX12_weighs_49 : decode cX12_weighs 49 = .ok (.iaload, 1) := by decide +kernel
theorem dX12_weighs_50 : decode cX12_weighs 50 = .ok (.ishr, 1) := by decide +kernel
theorem dX12_weighs_51 : decode cX12_weighs 51 = .ok (.iconst 1, 1) := by decide +kernel
theorem dX12_weighs_52 : decode cX12_weighs 52 = .ok (.iand, 1) := by decide +kernel
theorem dX12_weighs_53 : decode cX12_weighs 53 = .ok (.ifCond .ne 12, 3) := by decide +kernel
theorem dX12_weighs_56 : decode cX12_weighs 56 = .ok (.aload_n 0, 1) := by decide +kernel
theorem dX12_weighs_57 : decode cX12_weighs 57 = .ok (.iload 4, 2) := by decide +kernel
theorem dX12_weighs_59 : decode cX12_weighs 59 = .ok (.invokevirtual 224, 3) := by decide +kernel
theorem dX12_weighs_62 : decode cX12_weighs 62 = .ok (.goto 4, 3) := by decide +kernel
theorem dX12_weighs_65 : decode cX12_weighs 65 = .ok (.iconst 0, 1) := by decide +kernel
theorem dX12_weighs_66 : decode cX12_weighs 66 = .ok (.iadd, 1) := by decide +kernel
theorem dX12_weighs_67 : decode cX12_weighs 67 = .ok (.istore_n 3, 1) := by decide +kernel
theorem dX12_weighs_68 : decode cX12_weighs 68 = .ok (.iinc 4 1, 3) := by decide +kernel
theorem dX12_weighs_71 : decode cX12_weighs 71 = .ok (.goto (-39), 3) := by decide +kernel
theorem dX12_weighs_74 : decode cX12_weighs 74 = .ok (.iload_n 3, 1) := by decide +kernel
theorem dX12_weighs_75 : decode cX12_weighs 75 = .ok (.ireturn, 1) := by decide +kernel
theorem dX12_feed_0 : decode cX12_feed 0 = .ok (.iload_n 1, 1) := by decide +kernel
theorem dX12_feed_1 : decode cX12_feed 1 = .ok (.i2l, 1) := by decide +kernel
theorem dX12_feed_2 : decode cX12_feed 2 = .ok (.lconst 1, 1) := by decide +kernel
theorem dX12_feed_3 : decode cX12_feed 3 = .ok (.ldc2_w 237, 3) := by decide +kernel
theorem dX12_feed_6 : decode cX12_feed 6 = .ok (.invokestatic 142, 3) := by decide +kernel
theorem dX12_feed_9 : decode cX12_feed 9 = .ok (.ifCond .ne 6, 3) := by decide +kernel
theorem dX12_feed_12 : decode cX12_feed 12 = .ok (.bipush (-2), 2) := by decide +kernel
theorem dX12_feed_14 : decode cX12_feed 14 = .ok (.ireturn, 1) := by decide +kernel
theorem dX12_feed_15 : decode cX12_feed 15 = .ok (.aload_n 0, 1) := by decide +kernel
theorem dX12_feed_16 : decode cX12_feed 16 = .ok (.getfield 239, 3) := by decide +kernel
theorem dX12_feed_19 : decode cX12_feed 19 = .ok (.iload_n 1, 1) := by decide +kernel
theorem dX12_feed_20 : decode cX12_feed 20 = .ok (.iadd, 1) := by decide +kernel
theorem dX12_feed_21 : decode cX12_feed 21 = .ok (.sipush 160, 3) := by decide +kernel
theorem dX12_feed_24 : decode cX12_feed 24 = .ok (.if_icmp .le 6, 3) := by decide +kernel
theorem dX12_feed_27 : decode cX12_feed 27 = .ok (.bipush (-4), 2) := by decide +kernel
theorem dX12_feed_29 : decode cX12_feed 29 = .ok (.ireturn, 1) := by decide +kernel
theorem dX12_feed_30 : decode cX12_feed 30 = .ok (.iconst 0, 1) := by decide +kernel
theorem dX12_feed_31 : decode cX12_feed 31 = .ok (.istore 4, 2) := by decide +kernel
theorem dX12_feed_33 : decode cX12_feed 33 = .ok (.iload 4, 2) := by decide +kernel
theorem dX12_feed_35 : decode cX12_feed 35 = .ok (.iload_n 1, 1) := by decide +kernel
theorem dX12_feed_36 : decode cX12_feed 36 = .ok (.if_icmp .ge 40, 3) := by decide +kernel
theorem dX12_feed_39 : decode cX12_feed 39 = .ok (.aload_n 0, 1) := by decide +kernel
theorem dX12_feed_40 : decode cX12_feed 40 = .ok (.getfield 20, 3) := by decide +kernel
theorem dX12_feed_43 : decode cX12_feed 43 = .ok (.aload_n 0, 1) := by decide +kernel
theorem dX12_feed_44 : decode cX12_feed 44 = .ok (.getfield 239, 3) := by decide +kernel
theorem dX12_feed_47 : decode cX12_feed 47 = .ok (.lload_n 2, 1) := by decide +kernel
theorem dX12_feed_48 : decode cX12_feed 48 = .ok (.bipush 8, 2) := by decide +kernel
theorem dX12_feed_50 : decode cX12_feed 50 = .ok (.iload 4, 2) := by decide +kernel
theorem dX12_feed_52 : decode cX12_feed 52 = .ok (.imul, 1) := by decide +kernel
theorem dX12_feed_53 : decode cX12_feed 53 = .ok (.lshr, 1) := by decide +kernel
theorem dX12_feed_54 : decode cX12_feed 54 = .ok (.ldc2_w 137, 3) := by decide +kernel
theorem dX12_feed_57 : decode cX12_feed 57 = .ok (.land, 1) := by decide +kernel
theorem dX12_feed_58 : decode cX12_feed 58 = .ok (.l2i, 1) := by decide +kernel
theorem dX12_feed_59 : decode cX12_feed 59 = .ok (.iastore, 1) := by decide +kernel
theorem dX12_feed_60 : decode cX12_feed 60 = .ok (.aload_n 0, 1) := by decide +kernel
theorem dX12_feed_61 : decode cX12_feed 61 = .ok (.dup, 1) := by decide +kernel
theorem dX12_feed_62 : decode cX12_feed 62 = .ok (.getfield 239, 3) := by decide +kernel
theorem dX12_feed_65 : decode cX12_feed 65 = .ok (.iconst 1, 1) := by decide +kernel
theorem dX12_feed_66 : decode cX12_feed 66 = .ok (.iadd, 1) := by decide +kernel
theorem dX12_feed_67 : decode cX12_feed 67 = .ok (.putfield 239, 3) := by decide +kernel
theorem dX12_feed_70 : decode cX12_feed 70 = .ok (.iinc 4 1, 3) := by decide +kernel
theorem dX12_feed_73 : decode cX12_feed 73 = .ok (.goto (-40), 3) := by decide +kernel
theorem dX12_feed_76 : decode cX12_feed 76 = .ok (.aload_n 0, 1) := by decide +kernel
theorem dX12_feed_77 : decode cX12_feed 77 = .ok (.getfield 239, 3) := by decide +kernel
theorem dX12_feed_80 : decode cX12_feed 80 = .ok (.ireturn, 1) := by decide +kernel
theorem dX12_byteAt_0 : decode cX12_byteAt 0 = .ok (.iload_n 1, 1) := by decide +kernel
theorem dX12_byteAt_1 : decode cX12_byteAt 1 = .ok (.aload_n 0, 1) := by decide +kernel
theorem dX12_byteAt_2 : decode cX12_byteAt 2 = .ok (.getfield 242, 3) := by decide +kernel
theorem dX12_byteAt_5 : decode cX12_byteAt 5 = .ok (.if_icmp .ge 17, 3) := by decide +kernel
theorem dX12_byteAt_8 : decode cX12_byteAt 8 = .ok (.aload_n 0, 1) := by decide +kernel
theorem dX12_byteAt_9 : decode cX12_byteAt 9 = .ok (.getfield 13, 3) := by decide +kernel
theorem dX12_byteAt_12 : decode cX12_byteAt 12 = .ok (.aload_n 0, 1) := by decide +kernel
theorem dX12_byteAt_13 : decode cX12_byteAt 13 = .ok (.getfield 245, 3) := by decide +kernel
theorem dX12_byteAt_16 : decode cX12_byteAt 16 = .ok (.iload_n 1, 1) := by decide +kernel
theorem dX12_byteAt_17 : decode cX12_byteAt 17 = .ok (.iadd, 1) := by decide +kernel
theorem dX12_byteAt_18 : decode cX12_byteAt 18 = .ok (.iaload, 1) := by decide +kernel
theorem dX12_byteAt_19 : decode cX12_byteAt 19 = .ok (.goto 4, 3) := by decide +kernel
theorem dX12_byteAt_22 : decode cX12_byteAt 22 = .ok (.iconst (-1), 1) := by decide +kernel
theorem dX12_byteAt_23 : decode cX12_byteAt 23 = .ok (.ireturn, 1) := by decide +kernel
theorem dX12_next_0 : decode cX12_next 0 = .ok (.aload_n 0, 1) := by decide +kernel
theorem dX12_next_1 : decode cX12_next 1 = .ok (.aload_n 0, 1) := by decide +kernel
theorem dX12_next_2 : decode cX12_next 2 = .ok (.getfield 248, 3) := by decide +kernel
theorem dX12_next_5 : decode cX12_next 5 = .ok (.invokevirtual 251, 3) := by decide +kernel
theorem dX12_next_8 : decode cX12_next 8 = .ok (.bipush 32, 2) := by decide +kernel
theorem dX12_next_10 : decode cX12_next 10 = .ok (.if_icmp .eq 16, 3) := by decide +kernel
theorem dX12_next_13 : decode cX12_next 13 = .ok (.aload_n 0, 1) := by decide +kernel
theorem dX12_next_14 : decode cX12_next 14 = .ok (.aload_n 0, 1) := by decide +kernel
theorem dX12_next_15 : decode cX12_next 15 = .ok (.getfield 248, 3) := by decide +kernel
theorem dX12_next_18 : decode cX12_next 18 = .ok (.invokevirtual 251, 3) := by decide +kernel
theorem dX12_next_21 : decode cX12_next 21 = .ok (.bipush 10, 2) := by decide +kernel
theorem dX12_next_23 : decode cX12_next 23 = .ok (.if_icmp .ne 16, 3) := by decide +kernel
theorem dX12_next_26 : decode cX12_next 26 = .ok (.aload_n 0, 1) := by decide +kernel
theorem dX12_next_27 : decode cX12_next 27 = .ok (.dup, 1) := by decide +kernel
theorem dX12_next_28 : decode cX12_next 28 = .ok (.getfield 248, 3) := by decide +kernel
theorem dX12_next_31 : decode cX12_next 31 = .ok (.iconst 1, 1) := by decide +kernel
theorem dX12_next_32 : decode cX12_next 32 = .ok (.iadd, 1) := by decide +kernel
theorem dX12_next_33 : decode cX12_next 33 = .ok (.putfield 248, 3) := by decide +kernel
theorem dX12_next_36 : decode cX12_next 36 = .ok (.goto (-36), 3) := by decide +kernel
theorem dX12_next_39 : decode cX12_next 39 = .ok (.aload_n 0, 1) := by decide +kernel
theorem dX12_next_40 : decode cX12_next 40 = .ok (.aload_n 0, 1) := by decide +kernel
theorem dX12_next_41 : decode cX12_next 41 = .ok (.getfield 248, 3) := by decide +kernel
theorem dX12_next_44 : decode cX12_next 44 = .ok (.putfield 254, 3) := by decide +kernel
theorem dX12_next_47 : decode cX12_next 47 = .ok (.aload_n 0, 1) := by decide +kernel
theorem dX12_next_48 : decode cX12_next 48 = .ok (.aload_n 0, 1) := by decide +kernel
theorem dX12_next_49 : decode cX12_next 49 = .ok (.getfield 248, 3) := by decide +kernel
theorem dX12_next_52 : decode cX12_next 52 = .ok (.invokevirtual 251, 3) := by decide +kernel
theorem dX12_next_55 : decode cX12_next 55 = .ok (.istore_n 1, 1) := by decide +kernel
theorem dX12_next_56 : decode cX12_next 56 = .ok (.aload_n 0, 1) := by decide +kernel
theorem dX12_next_57 : decode cX12_next 57 = .ok (.iconst 4, 1) := by decide +kernel
theorem dX12_next_58 : decode cX12_next 58 = .ok (.putfield 257, 3) := by decide +kernel
theorem dX12_next_61 : decode cX12_next 61 = .ok (.iload_n 1, 1) := by decide +kernel
theorem dX12_next_62 : decode cX12_next 62 = .ok (.ifCond .ge 19, 3) := by decide +kernel
theorem dX12_next_65 : decode cX12_next 65 = .ok (.aload_n 0, 1) := by decide +kernel
theorem dX12_next_66 : decode cX12_next 66 = .ok (.iconst 0, 1) := by decide +kernel
theorem dX12_next_67 : decode cX12_next 67 = .ok (.putfield 257, 3) := by decide +kernel
theorem dX12_next_70 : decode cX12_next 70 = .ok (.aload_n 0, 1) := by decide +kernel
theorem dX12_next_71 : decode cX12_next 71 = .ok (.aload_n 0, 1) := by decide +kernel
theorem dX12_next_72 : decode cX12_next 72 = .ok (.getfield 242, 3) := by decide +kernel
theorem dX12_next_75 : decode cX12_next 75 = .ok (.putfield 254, 3) := by decide +kernel
theorem dX12_next_78 : decode cX12_next 78 = .ok (.goto 294, 3) := by decide +kernel
theorem dX12_next_81 : decode cX12_next 81 = .ok (.iload_n 1, 1) := by decide +kernel
theorem dX12_next_82 : decode cX12_next 82 = .ok (.i2l, 1) := by decide +kernel
theorem dX12_next_83 : decode cX12_next 83 = .ok (.ldc2_w 260, 3) := by decide +kernel
theorem dX12_next_86 : decode cX12_next 86 = .ok (.ldc2_w 262, 3) := by decide +kernel
theorem dX12_next_89 : decode cX12_next 89 = .ok (.invokestatic 142, 3) := by decide +kernel
theorem dX12_next_92 : decode cX12_next 92 = .ok (.ifCond .eq 93, 3) := by decide +kernel
theorem dX12_next_95 : decode cX12_next 95 = .ok (.aload_n 0, 1) := by decide +kernel
theorem dX12_next_96 : decode cX12_next 96 = .ok (.iconst 1, 1) := by decide +kernel
theorem dX12_next_97 : decode cX12_next 97 = .ok (.putfield 257, 3) := by decide +kernel
theorem dX12_next_100 : decode cX12_next 100 = .ok (.aload_n 0, 1) := by decide +kernel
theorem dX12_next_101 : decode cX12_next 101 = .ok (.lconst 0, 1) := by decide +kernel
theorem dX12_next_102 : decode cX12_next 102 = .ok (.putfield 264, 3) := by decide +kernel
theorem dX12_next_105 : decode cX12_next 105 = .ok (.iconst 0, 1) := by decide +kernel
theorem dX12_next_106 : decode cX12_next 106 = .ok (.istore_n 2, 1) := by decide +kernel
theorem dX12_next_107 : decode cX12_next 107 = .ok (.aload_n 0, 1) := by decide +kernel
theorem dX12_next_108 : decode cX12_next 108 = .ok (.aload_n 0, 1) := by decide +kernel
theorem dX12_next_109 : decode cX12_next 109 = .ok (.getfield 248, 3) := by decide +kernel
theorem dX12_next_112 : decode cX12_next 112 = .ok (.invokevirtual 251, 3) := by decide +kernel
theorem dX12_next_115 : decode cX12_next 115 = .ok (.i2l, 1) := by decide +kernel
theorem dX12_next_116 : decode cX12_next 116 = .ok (.ldc2_w 260, 3) := by decide +kernel
theorem dX12_next_119 : decode cX12_next 119 = .ok (.ldc2_w 262, 3) := by decide +kernel
theorem dX12_next_122 : decode cX12_next 122 = .ok (.invokestatic 142, 3) := by decide +kernel
theorem dX12_next_125 : decode cX12_next 125 = .ok (.ifCond .eq 57, 3) := by decide +kernel
theorem dX12_next_128 : decode cX12_next 128 = .ok (.aload_n 0, 1) := by decide +kernel
theorem dX12_next_129 : decode cX12_next 129 = .ok (.iload_n 2, 1) := by decide +kernel
theorem dX12_next_130 : decode cX12_next 130 = .ok (.bipush 8, 2) := by decide +kernel
theorem dX12_next_132 : decode cX12_next 132 = .ok (.if_icmp .ge 28, 3) := by decide +kernel
theorem dX12_next_135 : decode cX12_next 135 = .ok (.ldc2_w 268, 3) := by decide +kernel
theorem dX12_next_138 : decode cX12_next 138 = .ok (.aload_n 0, 1) := by decide +kernel
theorem dX12_next_139 : decode cX12_next 139 = .ok (.getfield 264, 3) := by decide +kernel
theorem dX12_next_142 : decode cX12_next 142 = .ok (.lmul, 1) := by decide +kernel
theorem dX12_next_143 : decode cX12_next 143 = .ok (.aload_n 0, 1) := by decide +kernel
theorem dX12_next_144 : decode cX12_next 144 = .ok (.aload_n 0, 1) := by decide +kernel
theorem dX12_next_145 : decode cX12_next 145 = .ok (.getfield 248, 3) := by decide +kernel
theorem dX12_next_148 : decode cX12_next 148 = .ok (.invokevirtual 251, 3) := by decide +kernel
theorem dX12_next_151 : decode cX12_next 151 = .ok (.i2l, 1) := by decide +kernel
theorem dX12_next_152 : decode cX12_next 152 = .ok (.ladd, 1) := by decide +kernel
theorem dX12_next_153 : decode cX12_next 153 = .ok (.ldc2_w 270, 3) := by decide +kernel
theorem dX12_next_156 : decode cX12_next 156 = .ok (.lsub, 1) := by decide +kernel
theorem dX12_next_157 : decode cX12_next 157 = .ok (.goto 6, 3) := by decide +kernel
theorem dX12_next_160 : decode cX12_next 160 = .ok (.ldc2_w 211, 3) := by decide +kernel
theorem dX12_next_163 : decode cX12_next 163 = .ok (.putfield 264, 3) := by decide +kernel
theorem dX12_next_166 : decode cX12_next 166 = .ok (.iinc 2 1, 3) := by decide +kernel
theorem dX12_next_169 : decode cX12_next 169 = .ok (.aload_n 0, 1) := by decide +kernel
theorem dX12_next_170 : decode cX12_next 170 = .ok (.dup, 1) := by decide +kernel
theorem dX12_next_171 : decode cX12_next 171 = .ok (.getfield 248, 3) := by decide +kernel
theorem dX12_next_174 : decode cX12_next 174 = .ok (.iconst 1, 1) := by decide +kernel
theorem dX12_next_175 : decode cX12_next 175 = .ok (.iadd, 1) := by decide +kernel
theorem dX12_next_176 : decode cX12_next 176 = .ok (.putfield 248, 3) := by decide +kernel
theorem dX12_next_179 : decode cX12_next 179 = .ok (.goto (-72), 3) := by decide +kernel
theorem dX12_next_182 : decode cX12_next 182 = .ok (.goto 190, 3) := by decide +kernel
theorem dX12_next_185 : decode cX12_next 185 = .ok (.iload_n 1, 1) := by decide +kernel
theorem dX12_next_186 : decode cX12_next 186 = .ok (.i2l, 1) := by decide +kernel
theorem dX12_next_187 : decode cX12_next 187 = .ok (.ldc2_w 272, 3) := by decide +kernel
theorem dX12_next_190 : decode cX12_next 190 = .ok (.ldc2_w 274, 3) := by decide +kernel
theorem dX12_next_193 : decode cX12_next 193 = .ok (.invokestatic 142, 3) := by decide +kernel
theorem dX12_next_196 : decode cX12_next 196 = .ok (.ifCond .eq 107, 3) := by decide +kernel
theorem dX12_next_199 : decode cX12_next 199 = .ok (.aload_n 0, 1) := by decide +kernel
theorem dX12_next_200 : decode cX12_next 200 = .ok (.iconst 2, 1) := by decide +kernel
theorem dX12_next_201 : decode cX12_next 201 = .ok (.putfield 257, 3) := by decide +kernel
theorem dX12_next_204 : decode cX12_next 204 = .ok (.aload_n 0, 1) := by decide +kernel
theorem dX12_next_205 : decode cX12_next 205 = .ok (.lconst 0, 1) := by decide +kernel
theorem dX12_next_206 : decode cX12_next 206 = .ok (.putfield 264, 3) := by decide +kernel
theorem dX12_next_209 : decode cX12_next 209 = .ok (.iconst 0, 1) := by decide +kernel
theorem dX12_next_210 : decode cX12_next 210 = .ok (.istore_n 2, 1) := by decide +kernel
theorem dX12_next_211 : decode cX12_next 211 = .ok (.aload_n 0, 1) := by decide +kernel
theorem dX12_next_212 : decode cX12_next 212 = .ok (.aload_n 0, 1) := by decide +kernel
theorem dX12_next_213 : decode cX12_next 213 = .ok (.getfield 248, 3) := by decide +kernel
theorem dX12_next_216 : decode cX12_next 216 = .ok (.invokevirtual 251, 3) := by decide +kernel
theorem dX12_next_219 : decode cX12_next 219 = .ok (.i2l, 1) := by decide +kernel
theorem dX12_next_220 : decode cX12_next 220 = .ok (.ldc2_w 272, 3) := by decide +kernel
theorem dX12_next_223 : decode cX12_next 223 = .ok (.ldc2_w 274, 3) := by decide +kernel
theorem dX12_next_226 : decode cX12_next 226 = .ok (.invokestatic 142, 3) := by decide +kernel
theorem dX12_next_229 : decode cX12_next 229 = .ok (.ifCond .eq 57, 3) := by decide +kernel
theorem dX12_next_232 : decode cX12_next 232 = .ok (.aload_n 0, 1) := by decide +kernel
theorem dX12_next_233 : decode cX12_next 233 = .ok (.iload_n 2, 1) := by decide +kernel
theorem dX12_next_234 : decode cX12_next 234 = .ok (.iconst 4, 1) := by decide +kernel
theorem dX12_next_235 : decode cX12_next 235 = .ok (.if_icmp .ge 28, 3) := by decide +kernel
theorem dX12_next_238 : decode cX12_next 238 = .ok (.ldc2_w 276, 3) := by decide +kernel
theorem dX12_next_241 : decode cX12_next 241 = .ok (.aload_n 0, 1) := by decide +kernel
theorem dX12_next_242 : decode cX12_next 242 = .ok (.getfield 264, 3) := by decide +kernel
theorem dX12_next_245 : decode cX12_next 245 = .ok (.lmul, 1) := by decide +kernel
theorem dX12_next_246 : decode cX12_next 246 = .ok (.aload_n 0, 1) := by decide +kernel
theorem dX12_next_247 : decode cX12_next 247 = .ok (.aload_n 0, 1) := by decide +kernel
theorem dX12_next_248 : decode cX12_next 248 = .ok (.getfield 248, 3) := by decide +kernel
theorem dX12_next_251 : decode cX12_next 251 = .ok (.invokevirtual 251, 3) := by decide +kernel
theorem dX12_next_254 : decode cX12_next 254 = .ok (.i2l, 1) := by decide +kernel
theorem dX12_next_255 : decode cX12_next 255 = .ok (.ladd, 1) := by decide +kernel
theorem dX12_next_256 : decode cX12_next 256 = .ok (.ldc2_w 272, 3) := by decide +kernel
theorem dX12_next_259 : decode cX12_next 259 = .ok (.lsub, 1) := by decide +kernel
theorem dX12_next_260 : decode cX12_next 260 = .ok (.goto 7, 3) := by decide +kernel
theorem dX12_next_263 : decode cX12_next 263 = .ok (.aload_n 0, 1) := by decide +kernel
theorem dX12_next_264 : decode cX12_next 264 = .ok (.getfield 264, 3) := by decide +kernel
theorem dX12_next_267 : decode cX12_next 267 = .ok (.putfield 264, 3) := by decide +kernel
theorem dX12_next_270 : decode cX12_next 270 = .ok (.iinc 2 1, 3) := by decide +kernel
theorem dX12_next_273 : decode cX12_next 273 = .ok (.aload_n 0, 1) := by decide +kernel
theorem dX12_next_274 : decode cX12_next 274 = .ok (.dup, 1) := by decide +kernel
theorem dX12_next_275 : decode cX12_next 275 = .ok (.getfield 248, 3) := by decide +kernel
theorem dX12_next_278 : decode cX12_next 278 = .ok (.iconst 1, 1) := by decide +kernel
theorem dX12_next_279 : decode cX12_next 279 = .ok (.iadd, 1) := by decide +kernel
theorem dX12_next_280 : decode cX12_next 280 = .ok (.putfield 248, 3) := by decide +kernel
theorem dX12_next_283 : decode cX12_next 283 = .ok (.goto (-72), 3) := by decide +kernel
theorem dX12_next_286 : decode cX12_next 286 = .ok (.aload_n 0, 1) := by decide +kernel
theorem dX12_next_287 : decode cX12_next 287 = .ok (.iload_n 2, 1) := by decide +kernel
theorem dX12_next_288 : decode cX12_next 288 = .ok (.iconst 4, 1) := by decide +kernel
theorem dX12_next_289 : decode cX12_next 289 = .ok (.if_icmp .le 7, 3) := by decide +kernel
theorem dX12_next_292 : decode cX12_next 292 = .ok (.iconst 4, 1) := by decide +kernel
theorem dX12_next_293 : decode cX12_next 293 = .ok (.goto 4, 3) := by decide +kernel
theorem dX12_next_296 : decode cX12_next 296 = .ok (.iconst 2, 1) := by decide +kernel
theorem dX12_next_297 : decode cX12_next 297 = .ok (.putfield 257, 3) := by decide +kernel
theorem dX12_next_300 : decode cX12_next 300 = .ok (.goto 72, 3) := by decide +kernel
theorem dX12_next_303 : decode cX12_next 303 = .ok (.iload_n 1, 1) := by decide +kernel
theorem dX12_next_304 : decode cX12_next 304 = .ok (.bipush 40, 2) := by decide +kernel
theorem dX12_next_306 : decode cX12_next 306 = .ok (.if_icmp .eq 45, 3) := by decide +kernel
theorem dX12_next_309 : decode cX12_next 309 = .ok (.iload_n 1, 1) := by decide +kernel
theorem dX12_next_310 : decode cX12_next 310 = .ok (.bipush 41, 2) := by decide +kernel
theorem dX12_next_312 : decode cX12_next 312 = .ok (.if_icmp .eq 39, 3) := by decide +kernel
theorem dX12_next_315 : decode cX12_next 315 = .ok (.iload_n 1, 1) := by decide +kernel
theorem dX12_next_316 : decode cX12_next 316 = .ok (.bipush 59, 2) := by decide +kernel
theorem dX12_next_318 : decode cX12_next 318 = .ok (.if_icmp .eq 33, 3) := by decide +kernel
theorem dX12_next_321 : decode cX12_next 321 = .ok (.iload_n 1, 1) := by decide +kernel
theorem dX12_next_322 : decode cX12_next 322 = .ok (.bipush 43, 2) := by decide +kernel
theorem dX12_next_324 : decode cX12_next 324 = .ok (.if_icmp .eq 27, 3) := by decide +kernel
theorem dX12_next_327 : decode cX12_next 327 = .ok (.iload_n 1, 1) := by decide +kernel
theorem dX12_next_328 : decode cX12_next 328 = .ok (.bipush 45, 2) := by decide +kernel
theorem dX12_next_330 : decode cX12_next 330 = .ok (.if_icmp .eq 21, 3) := by decide +kernel
theorem dX12_next_333 : decode cX12_next 333 = .ok (.iload_n 1, 1) := by decide +kernel
theorem dX12_next_334 : decode cX12_next 334 = .ok (.bipush 42, 2) := by decide +kernel
theorem dX12_next_336 : decode cX12_next 336 = .ok (.if_icmp .eq 15, 3) := by decide +kernel
theorem dX12_next_339 : decode cX12_next 339 = .ok (.iload_n 1, 1) := by decide +kernel
theorem dX12_next_340 : decode cX12_next 340 = .ok (.bipush 60, 2) := by decide +kernel
theorem dX12_next_342 : decode cX12_next 342 = .ok (.if_icmp .eq 9, 3) := by decide +kernel
theorem dX12_next_345 : decode cX12_next 345 = .ok (.iload_n 1, 1) := by decide +kernel
theorem dX12_next_346 : decode cX12_next 346 = .ok (.bipush 61, 2) := by decide +kernel
theorem dX12_next_348 : decode cX12_next 348 = .ok (.if_icmp .ne 24, 3) := by decide +kernel
theorem dX12_next_351 : decode cX12_next 351 = .ok (.aload_n 0, 1) := by decide +kernel
theorem dX12_next_352 : decode cX12_next 352 = .ok (.iconst 3, 1) := by decide +kernel
theorem dX12_next_353 : decode cX12_next 353 = .ok (.putfield 257, 3) := by decide +kernel
theorem dX12_next_356 : decode cX12_next 356 = .ok (.aload_n 0, 1) := by decide +kernel
theorem dX12_next_357 : decode cX12_next 357 = .ok (.iload_n 1, 1) := by decide +kernel
theorem dX12_next_358 : decode cX12_next 358 = .ok (.i2l, 1) := by decide +kernel
theorem dX12_next_359 : decode cX12_next 359 = .ok (.putfield 264, 3) := by decide +kernel
theorem dX12_next_362 : decode cX12_next 362 = .ok (.aload_n 0, 1) := by decide +kernel
theorem dX12_next_363 : decode cX12_next 363 = .ok (.dup, 1) := by decide +kernel
theorem dX12_next_364 : decode cX12_next 364 = .ok (.getfield 248, 3) := by decide +kernel
theorem dX12_next_367 : decode cX12_next 367 = .ok (.iconst 1, 1) := by decide +kernel
theorem dX12_next_368 : decode cX12_next 368 = .ok (.iadd, 1) := by decide +kernel
theorem dX12_next_369 : decode cX12_next 369 = .ok (.putfield 248, 3) := by decide +kernel
theorem dX12_next_372 : decode cX12_next 372 = .ok (.return_, 1) := by decide +kernel
theorem dX12_fail_0 : decode cX12_fail 0 = .ok (.aload_n 0, 1) := by decide +kernel
theorem dX12_fail_1 : decode cX12_fail 1 = .ok (.getfield 278, 3) := by decide +kernel
theorem dX12_fail_4 : decode cX12_fail 4 = .ok (.ifCond .ne 16, 3) := by decide +kernel
theorem dX12_fail_7 : decode cX12_fail 7 = .ok (.aload_n 0, 1) := by decide +kernel
theorem dX12_fail_8 : decode cX12_fail 8 = .ok (.iconst 1, 1) := by decide +kernel
theorem dX12_fail_9 : decode cX12_fail 9 = .ok (.putfield 278, 3) := by decide +kernel
theorem dX12_fail_12 : decode cX12_fail 12 = .ok (.aload_n 0, 1) := by decide +kernel
theorem dX12_fail_13 : decode cX12_fail 13 = .ok (.aload_n 0, 1) := by decide +kernel
theorem dX12_fail_14 : decode cX12_fail 14 = .ok (.getfield 254, 3) := by decide +kernel
theorem dX12_fail_17 : decode cX12_fail 17 = .ok (.putfield 282, 3) := by decide +kernel
theorem dX12_fail_20 : decode cX12_fail 20 = .ok (.return_, 1) := by decide +kernel
theorem dX12_isWord_0 : decode cX12_isWord 0 = .ok (.aload_n 0, 1) := by decide +kernel
theorem dX12_isWord_1 : decode cX12_isWord 1 = .ok (.getfield 278, 3) := by decide +kernel
theorem dX12_isWord_4 : decode cX12_isWord 4 = .ok (.ifCond .ne 24, 3) := by decide +kernel
theorem dX12_isWord_7 : decode cX12_isWord 7 = .ok (.aload_n 0, 1) := by decide +kernel
theorem dX12_isWord_8 : decode cX12_isWord 8 = .ok (.getfield 257, 3) := by decide +kernel
theorem dX12_isWord_11 : decode cX12_isWord 11 = .ok (.iconst 1, 1) := by decide +kernel
theorem dX12_isWord_12 : decode cX12_isWord 12 = .ok (.if_icmp .ne 16, 3) := by decide +kernel
theorem dX12_isWord_15 : decode cX12_isWord 15 = .ok (.aload_n 0, 1) := by decide +kernel
theorem dX12_isWord_16 : decode cX12_isWord 16 = .ok (.getfield 264, 3) := by decide +kernel
theorem dX12_isWord_19 : decode cX12_isWord 19 = .ok (.lload_n 1, 1) := by decide +kernel
theorem dX12_isWord_20 : decode cX12_isWord 20 = .ok (.lcmp, 1) := by decide +kernel
theorem dX12_isWord_21 : decode cX12_isWord 21 = .ok (.ifCond .ne 7, 3) := by decide +kernel
theorem dX12_isWord_24 : decode cX12_isWord 24 = .ok (.iconst 1, 1) := by decide +kernel
theorem dX12_isWord_25 : decode cX12_isWord 25 = .ok (.goto 4, 3) := by decide +kernel
theorem dX12_isWord_28 : decode cX12_isWord 28 = .ok (.iconst 0, 1) := by decide +kernel
theorem dX12_isWord_29 : decode cX12_isWord 29 = .ok (.ireturn, 1) := by decide +kernel
theorem dX12_isSign_0 : decode cX12_isSign 0 = .ok (.aload_n 0, 1) := by decide +kernel
theorem dX12_isSign_1 : decode cX12_isSign 1 = .ok (.getfield 278, 3) := by decide +kernel
theorem dX12_isSign_4 : decode cX12_isSign 4 = .ok (.ifCond .ne 25, 3) := by decide +kernel
theorem dX12_isSign_7 : decode cX12_isSign 7 = .ok (.aload_n 0, 1) := by decide +kernel
theorem dX12_isSign_8 : decode cX12_isSign 8 = .ok (.getfield 257, 3) := by decide +kernel
theorem dX12_isSign_11 : decode cX12_isSign 11 = .ok (.iconst 3, 1) := by decide +kernel
theorem dX12_isSign_12 : decode cX12_isSign 12 = .ok (.if_icmp .ne 17, 3) := by decide +kernel
theorem dX12_isSign_15 : decode cX12_isSign 15 = .ok (.aload_n 0, 1) := by decide +kernel
theorem dX12_isSign_16 : decode cX12_isSign 16 = .ok (.getfield 264, 3) := by decide +kernel
theorem dX12_isSign_19 : decode cX12_isSign 19 = .ok (.iload_n 1, 1) := by decide +kernel
theorem dX12_isSign_20 : decode cX12_isSign 20 = .ok (.i2l, 1) := by decide +kernel
theorem dX12_isSign_21 : decode cX12_isSign 21 = .ok (.lcmp, 1) := by decide +kernel
theorem dX12_isSign_22 : decode cX12_isSign 22 = .ok (.ifCond .ne 7, 3) := by decide +kernel
theorem dX12_isSign_25 : decode cX12_isSign 25 = .ok (.iconst 1, 1) := by decide +kernel
theorem dX12_isSign_26 : decode cX12_isSign 26 = .ok (.goto 4, 3) := by decide +kernel
theorem dX12_isSign_29 : decode cX12_isSign 29 = .ok (.iconst 0, 1) := by decide +kernel
theorem dX12_isSign_30 : decode cX12_isSign 30 = .ok (.ireturn, 1) := by decide +kernel
theorem dX12_opens_0 : decode cX12_opens 0 = .ok (.aload_n 0, 1) := by decide +kernel
theorem dX12_opens_1 : decode cX12_opens 1 = .ok (.getfield 285, 3) := by decide +kernel
theorem dX12_opens_4 : decode cX12_opens 4 = .ok (.iconst 5, 1) := by decide +kernel
theorem dX12_opens_5 : decode cX12_opens 5 = .ok (.if_icmp .ne 9, 3) := by decide +kernel
theorem dX12_opens_8 : decode cX12_opens 8 = .ok (.aload_n 0, 1) := by decide +kernel
theorem dX12_opens_9 : decode cX12_opens 9 = .ok (.invokevirtual 288, 3) := by decide +kernel
theorem dX12_opens_12 : decode cX12_opens 12 = .ok (.iconst 0, 1) := by decide +kernel
theorem dX12_opens_13 : decode cX12_opens 13 = .ok (.ireturn, 1) := by decide +kernel
theorem dX12_opens_14 : decode cX12_opens 14 = .ok (.aload_n 0, 1) := by decide +kernel
theorem dX12_opens_15 : decode cX12_opens 15 = .ok (.dup, 1) := by decide +kernel
theorem dX12_opens_16 : decode cX12_opens 16 = .ok (.getfield 285, 3) := by decide +kernel
theorem dX12_opens_19 : decode cX12_opens 19 = .ok (.iconst 1, 1) := by decide +kernel
theorem dX12_opens_20 : decode cX12_opens 20 = .ok (.iadd, 1) := by decide +kernel
theorem dX12_opens_21 : decode cX12_opens 21 = .ok (.putfield 285, 3) := by decide +kernel
theorem dX12_opens_24 : decode cX12_opens 24 = .ok (.aload_n 0, 1) := by decide +kernel
theorem dX12_opens_25 : decode cX12_opens 25 = .ok (.invokevirtual 291, 3) := by decide +kernel
theorem dX12_opens_28 : decode cX12_opens 28 = .ok (.iconst 1, 1) := by decide +kernel
theorem dX12_opens_29 : decode cX12_opens 29 = .ok (.ireturn, 1) := by decide +kernel
theorem dX12_name_0 : decode cX12_name 0 = .ok (.aload_n 0, 1) := by decide +kernel
theorem dX12_name_1 : decode cX12_name 1 = .ok (.ldc2_w 294, 3) := by decide +kernel
theorem dX12_name_4 : decode cX12_name 4 = .ok (.invokevirtual 296, 3) := by decide +kernel
theorem dX12_name_7 : decode cX12_name 7 = .ok (.ifCond .eq 8, 3) := by decide +kernel
theorem dX12_name_10 : decode cX12_name 10 = .ok (.aload_n 0, 1) := by decide +kernel
theorem dX12_name_11 : decode cX12_name 11 = .ok (.getfield 300, 3) := by decide +kernel
theorem dX12_name_14 : decode cX12_name 14 = .ok (.ireturn, 1) := by decide +kernel
theorem dX12_name_15 : decode cX12_name 15 = .ok (.aload_n 0, 1) := by decide +kernel
theorem dX12_name_16 : decode cX12_name 16 = .ok (.ldc2_w 303, 3) := by decide +kernel
theorem dX12_name_19 : decode cX12_name 19 = .ok (.invokevirtual 296, 3) := by decide +kernel
theorem dX12_name_22 : decode cX12_name 22 = .ok (.ifCond .eq 8, 3) := by decide +kernel
theorem dX12_name_25 : decode cX12_name 25 = .ok (.aload_n 0, 1) := by decide +kernel
theorem dX12_name_26 : decode cX12_name 26 = .ok (.getfield 305, 3) := by decide +kernel
theorem dX12_name_29 : decode cX12_name 29 = .ok (.ireturn, 1) := by decide +kernel
theorem dX12_name_30 : decode cX12_name 30 = .ok (.aload_n 0, 1) := by decide +kernel
theorem dX12_name_31 : decode cX12_name 31 = .ok (.ldc2_w 308, 3) := by decide +kernel
theorem dX12_name_34 : decode cX12_name 34 = .ok (.invokevirtual 296, 3) := by decide +kernel
theorem dX12_name_37 : decode cX12_name 37 = .ok (.ifCond .eq 8, 3) := by decide +kernel
theorem dX12_name_40 : decode cX12_name 40 = .ok (.aload_n 0, 1) := by decide +kernel
theorem dX12_name_41 : decode cX12_name 41 = .ok (.getfield 310, 3) := by decide +kernel
theorem dX12_name_44 : decode cX12_name 44 = .ok (.ireturn, 1) := by decide +kernel
theorem dX12_name_45 : decode cX12_name 45 = .ok (.aload_n 0, 1) := by decide +kernel
theorem dX12_name_46 : decode cX12_name 46 = .ok (.ldc2_w 313, 3) := by decide +kernel
theorem dX12_name_49 : decode cX12_name 49 = .ok (.invokevirtual 296, 3) := by decide +kernel
theorem dX12_name_52 : decode cX12_name 52 = .ok (.ifCond .eq 8, 3) := by decide +kernel
theorem dX12_name_55 : decode cX12_name 55 = .ok (.aload_n 0, 1) := by decide +kernel
theorem dX12_name_56 : decode cX12_name 56 = .ok (.getfield 315, 3) := by decide +kernel
theorem dX12_name_59 : decode cX12_name 59 = .ok (.ireturn, 1) := by decide +kernel
theorem dX12_name_60 : decode cX12_name 60 = .ok (.aload_n 0, 1) := by decide +kernel
theorem dX12_name_61 : decode cX12_name 61 = .ok (.ldc2_w 318, 3) := by decide +kernel
theorem dX12_name_64 : decode cX12_name 64 = .ok (.invokevirtual 296, 3) := by decide +kernel
theorem dX12_name_67 : decode cX12_name 67 = .ok (.ifCond .eq 8, 3) := by decide +kernel
theorem dX12_name_70 : decode cX12_name 70 = .ok (.aload_n 0, 1) := by decide +kernel
theorem dX12_name_71 : decode cX12_name 71 = .ok (.getfield 320, 3) := by decide +kernel
theorem dX12_name_74 : decode cX12_name 74 = .ok (.ireturn, 1) := by decide +kernel
theorem dX12_name_75 : decode cX12_name 75 = .ok (.aload_n 0, 1) := by decide +kernel
theorem dX12_name_76 : decode cX12_name 76 = .ok (.ldc2_w 323, 3) := by decide +kernel
theorem dX12_name_79 : decode cX12_name 79 = .ok (.invokevirtual 296, 3) := by decide +kernel
theorem dX12_name_82 : decode cX12_name 82 = .ok (.ifCond .eq 8, 3) := by decide +kernel
theorem dX12_name_85 : decode cX12_name 85 = .ok (.aload_n 0, 1) := by decide +kernel
theorem dX12_name_86 : decode cX12_name 86 = .ok (.getfield 325, 3) := by decide +kernel
theorem dX12_name_89 : decode cX12_name 89 = .ok (.ireturn, 1) := by decide +kernel
theorem dX12_name_90 : decode cX12_name 90 = .ok (.aload_n 0, 1) := by decide +kernel
theorem dX12_name_91 : decode cX12_name 91 = .ok (.invokevirtual 288, 3) := by decide +kernel
theorem dX12_name_94 : decode cX12_name 94 = .ok (.iconst 0, 1) := by decide +kernel
theorem dX12_name_95 : decode cX12_name 95 = .ok (.ireturn, 1) := by decide +kernel
theorem dX12_one_0 : decode cX12_one 0 = .ok (.iconst 0, 1) := by decide +kernel
theorem dX12_one_1 : decode cX12_one 1 = .ok (.istore_n 1, 1) := by decide +kernel
theorem dX12_one_2 : decode cX12_one 2 = .ok (.aload_n 0, 1) := by decide +kernel
theorem dX12_one_3 : decode cX12_one 3 = .ok (.bipush 45, 2) := by decide +kernel
theorem dX12_one_5 : decode cX12_one 5 = .ok (.invokevirtual 328, 3) := by decide +kernel
theorem dX12_one_8 : decode cX12_one 8 = .ok (.ifCond .eq 29, 3) := by decide +kernel
theorem dX12_one_11 : decode cX12_one 11 = .ok (.aload_n 0, 1) := by decide +kernel
theorem dX12_one_12 : decode cX12_one 12 = .ok (.invokevirtual 331, 3) := by decide +kernel
theorem dX12_one_15 : decode cX12_one 15 = .ok (.ifCond .eq 146, 3) := by decide +kernel
theorem dX12_one_18 : decode cX12_one 18 = .ok (.aload_n 0, 1) := by decide +kernel
theorem dX12_one_19 : decode cX12_one 19 = .ok (.invokevirtual 335, 3) := by decide +kernel
theorem dX12_one_22 : decode cX12_one 22 = .ok (.ineg, 1) := by decide +kernel
theorem dX12_one_23 : decode cX12_one 23 = .ok (.istore_n 1, 1) := by decide +kernel
theorem dX12_one_24 : decode cX12_one 24 = .ok (.aload_n 0, 1) := by decide +kernel
theorem dX12_one_25 : decode cX12_one 25 = .ok (.dup, 1) := by decide +kernel
theorem dX12_one_26 : decode cX12_one 26 = .ok (.getfield 285, 3) := by decide +kernel
theorem dX12_one_29 : decode cX12_one 29 = .ok (.iconst 1, 1) := by decide +kernel
theorem dX12_one_30 : decode cX12_one 30 = .ok (.isub, 1) := by decide +kernel
theorem dX12_one_31 : decode cX12_one 31 = .ok (.putfield 285, 3) := by decide +kernel
theorem dX12_one_34 : decode cX12_one 34 = .ok (.goto 127, 3) := by decide +kernel
theorem dX12_one_37 : decode cX12_one 37 = .ok (.aload_n 0, 1) := by decide +kernel
theorem dX12_one_38 : decode cX12_one 38 = .ok (.bipush 40, 2) := by decide +kernel
theorem dX12_one_40 : decode cX12_one 40 = .ok (.invokevirtual 328, 3) := by decide +kernel
theorem dX12_one_43 : decode cX12_one 43 = .ok (.ifCond .eq 52, 3) := by decide +kernel
theorem dX12_one_46 : decode cX12_one 46 = .ok (.aload_n 0, 1) := by decide +kernel
theorem dX12_one_47 : decode cX12_one 47 = .ok (.invokevirtual 331, 3) := by decide +kernel
theorem dX12_one_50 : decode cX12_one 50 = .ok (.ifCond .eq 111, 3) := by decide +kernel
theorem dX12_one_53 : decode cX12_one 53 = .ok (.aload_n 0, 1) := by decide +kernel
theorem dX12_one_54 : decode cX12_one 54 = .ok (.invokevirtual 339, 3) := by decide +kernel
theorem dX12_one_57 : decode cX12_one 57 = .ok (.istore_n 1, 1) := by decide +kernel
theorem dX12_one_58 : decode cX12_one 58 = .ok (.aload_n 0, 1) := by decide +kernel
theorem dX12_one_59 : decode cX12_one 59 = .ok (.bipush 41, 2) := by decide +kernel
theorem dX12_one_61 : decode cX12_one 61 = .ok (.invokevirtual 328, 3) := by decide +kernel
theorem dX12_one_64 : decode cX12_one 64 = .ok (.ifCond .ne 7, 3) := by decide +kernel
theorem dX12_one_67 : decode cX12_one 67 = .ok (.aload_n 0, 1) := by decide +kernel
theorem dX12_one_68 : decode cX12_one 68 = .ok (.invokevirtual 288, 3) := by decide +kernel
theorem dX12_one_71 : decode cX12_one 71 = .ok (.aload_n 0, 1) := by decide +kernel
theorem dX12_one_72 : decode cX12_one 72 = .ok (.dup, 1) := by decide +kernel
theorem dX12_one_73 : decode cX12_one 73 = .ok (.getfield 285, 3) := by decide +kernel
theorem dX12_one_76 : decode cX12_one 76 = .ok (.iconst 1, 1) := by decide +kernel
theorem dX12_one_77 : decode cX12_one 77 = .ok (.isub, 1) := by decide +kernel
theorem dX12_one_78 : decode cX12_one 78 = .ok (.putfield 285, 3) := by decide +kernel
theorem dX12_one_81 : decode cX12_one 81 = .ok (.aload_n 0, 1) := by decide +kernel
theorem dX12_one_82 : decode cX12_one 82 = .ok (.getfield 278, 3) := by decide +kernel
theorem dX12_one_85 : decode cX12_one 85 = .ok (.ifCond .ne 76, 3) := by decide +kernel
theorem dX12_one_88 : decode cX12_one 88 = .ok (.aload_n 0, 1) := by decide +kernel
theorem dX12_one_89 : decode cX12_one 89 = .ok (.invokevirtual 291, 3) := by decide +kernel
theorem dX12_one_92 : decode cX12_one 92 = .ok (.goto 69, 3) := by decide +kernel
theorem dX12_one_95 : decode cX12_one 95 = .ok (.aload_n 0, 1) := by decide +kernel
theorem dX12_one_96 : decode cX12_one 96 = .ok (.getfield 278, 3) := by decide +kernel
theorem dX12_one_99 : decode cX12_one 99 = .ok (.ifCond .ne 24, 3) := by decide +kernel
theorem dX12_one_102 : decode cX12_one 102 = .ok (.aload_n 0, 1) := by decide +kernel
theorem dX12_one_103 : decode cX12_one 103 = .ok (.getfield 257, 3) := by decide +kernel
theorem dX12_one_106 : decode cX12_one 106 = .ok (.iconst 2, 1) := by decide +kernel
theorem dX12_one_107 : decode cX12_one 107 = .ok (.if_icmp .ne 16, 3) := by decide +kernel
theorem dX12_one_110 : decode cX12_one 110 = .ok (.aload_n 0, 1) := by decide +kernel
theorem dX12_one_111 : decode cX12_one 111 = .ok (.getfield 264, 3) := by decide +kernel
theorem dX12_one_114 : decode cX12_one 114 = .ok (.l2i, 1) := by decide +kernel
theorem dX12_one_115 : decode cX12_one 115 = .ok (.istore_n 1, 1) := by decide +kernel
theorem dX12_one_116 : decode cX12_one 116 = .ok (.aload_n 0, 1) := by decide +kernel
theorem dX12_one_117 : decode cX12_one 117 = .ok (.invokevirtual 291, 3) := by decide +kernel
theorem dX12_one_120 : decode cX12_one 120 = .ok (.goto 41, 3) := by decide +kernel
theorem dX12_one_123 : decode cX12_one 123 = .ok (.aload_n 0, 1) := by decide +kernel
theorem dX12_one_124 : decode cX12_one 124 = .ok (.getfield 278, 3) := by decide +kernel
theorem dX12_one_127 : decode cX12_one 127 = .ok (.ifCond .ne 30, 3) := by decide +kernel
theorem dX12_one_130 : decode cX12_one 130 = .ok (.aload_n 0, 1) := by decide +kernel
theorem dX12_one_131 : decode cX12_one 131 = .ok (.getfield 257, 3) := by decide +kernel
theorem dX12_one_134 : decode cX12_one 134 = .ok (.iconst 1, 1) := by decide +kernel
theorem dX12_one_135 : decode cX12_one 135 = .ok (.if_icmp .ne 22, 3) := by decide +kernel
theorem dX12_one_138 : decode cX12_one 138 = .ok (.aload_n 0, 1) := by decide +kernel
theorem dX12_one_139 : decode cX12_one 139 = .ok (.invokevirtual 342, 3) := by decide +kernel
theorem dX12_one_142 : decode cX12_one 142 = .ok (.istore_n 1, 1) := by decide +kernel
theorem dX12_one_143 : decode cX12_one 143 = .ok (.aload_n 0, 1) := by decide +kernel
theorem dX12_one_144 : decode cX12_one 144 = .ok (.getfield 278, 3) := by decide +kernel
theorem dX12_one_147 : decode cX12_one 147 = .ok (.ifCond .ne 14, 3) := by decide +kernel
theorem dX12_one_150 : decode cX12_one 150 = .ok (.aload_n 0, 1) := by decide +kernel
theorem dX12_one_151 : decode cX12_one 151 = .ok (.invokevirtual 291, 3) := by decide +kernel
theorem dX12_one_154 : decode cX12_one 154 = .ok (.goto 7, 3) := by decide +kernel
theorem dX12_one_157 : decode cX12_one 157 = .ok (.aload_n 0, 1) := by decide +kernel
theorem dX12_one_158 : decode cX12_one 158 = .ok (.invokevirtual 288, 3) := by decide +kernel
theorem dX12_one_161 : decode cX12_one 161 = .ok (.iload_n 1, 1) := by decide +kernel
theorem dX12_one_162 : decode cX12_one 162 = .ok (.ireturn, 1) := by decide +kernel
theorem dX12_term_0 : decode cX12_term 0 = .ok (.aload_n 0, 1) := by decide +kernel
theorem dX12_term_1 : decode cX12_term 1 = .ok (.invokevirtual 335, 3) := by decide +kernel
theorem dX12_term_4 : decode cX12_term 4 = .ok (.istore_n 1, 1) := by decide +kernel
theorem dX12_term_5 : decode cX12_term 5 = .ok (.aload_n 0, 1) := by decide +kernel
theorem dX12_term_6 : decode cX12_term 6 = .ok (.bipush 42, 2) := by decide +kernel
theorem dX12_term_8 : decode cX12_term 8 = .ok (.invokevirtual 328, 3) := by decide +kernel
theorem dX12_term_11 : decode cX12_term 11 = .ok (.ifCond .eq 17, 3) := by decide +kernel
theorem dX12_term_14 : decode cX12_term 14 = .ok (.aload_n 0, 1) := by decide +kernel
theorem dX12_term_15 : decode cX12_term 15 = .ok (.invokevirtual 291, 3) := by decide +kernel
theorem dX12_term_18 : decode cX12_term 18 = .ok (.iload_n 1, 1) := by decide +kernel
theorem dX12_term_19 : decode cX12_term 19 = .ok (.aload_n 0, 1) := by decide +kernel
theorem dX12_term_20 : decode cX12_term 20 = .ok (.invokevirtual 335, 3) := by decide +kernel
theorem dX12_term_23 : decode cX12_term 23 = .ok (.imul, 1) := by decide +kernel
theorem dX12_term_24 : decode cX12_term 24 = .ok (.istore_n 1, 1) := by decide +kernel
theorem dX12_term_25 : decode cX12_term 25 = .ok (.goto (-20), 3) := by decide +kernel
theorem dX12_term_28 : decode cX12_term 28 = .ok (.iload_n 1, 1) := by decide +kernel
theorem dX12_term_29 : decode cX12_term 29 = .ok (.ireturn, 1) := by decide +kernel
theorem dX12_added_0 : decode cX12_added 0 = .ok (.aload_n 0, 1) := by decide +kernel
theorem dX12_added_1 : decode cX12_added 1 = .ok (.invokevirtual 345, 3) := by decide +kernel
theorem dX12_added_4 : decode cX12_added 4 = .ok (.istore_n 1, 1) := by decide +kernel
theorem dX12_added_5 : decode cX12_added 5 = .ok (.aload_n 0, 1) := by decide +kernel
theorem dX12_added_6 : decode cX12_added 6 = .ok (.bipush 43, 2) := by decide +kernel
theorem dX12_added_8 : decode cX12_added 8 = .ok (.invokevirtual 328, 3) := by decide +kernel
theorem dX12_added_11 : decode cX12_added 11 = .ok (.ifCond .ne 12, 3) := by decide +kernel
theorem dX12_added_14 : decode cX12_added 14 = .ok (.aload_n 0, 1) := by decide +kernel
theorem dX12_added_15 : decode cX12_added 15 = .ok (.bipush 45, 2) := by decide +kernel
theorem dX12_added_17 : decode cX12_added 17 = .ok (.invokevirtual 328, 3) := by decide +kernel
theorem dX12_added_20 : decode cX12_added 20 = .ok (.ifCond .eq 46, 3) := by decide +kernel
theorem dX12_added_23 : decode cX12_added 23 = .ok (.aload_n 0, 1) := by decide +kernel
theorem dX12_added_24 : decode cX12_added 24 = .ok (.getfield 264, 3) := by decide +kernel
theorem dX12_added_27 : decode cX12_added 27 = .ok (.ldc2_w 348, 3) := by decide +kernel
theorem dX12_added_30 : decode cX12_added 30 = .ok (.lcmp, 1) := by decide +kernel
theorem dX12_added_31 : decode cX12_added 31 = .ok (.ifCond .ne 7, 3) := by decide +kernel
theorem dX12_added_34 : decode cX12_added 34 = .ok (.iconst 1, 1) := by decide +kernel
theorem dX12_added_35 : decode cX12_added 35 = .ok (.goto 4, 3) := by decide +kernel
theorem dX12_added_38 : decode cX12_added 38 = .ok (.iconst 0, 1) := by decide +kernel
theorem dX12_added_39 : decode cX12_added 39 = .ok (.istore_n 2, 1) := by decide +kernel
theorem dX12_added_40 : decode cX12_added 40 = .ok (.aload_n 0, 1) := by decide +kernel
theorem dX12_added_41 : decode cX12_added 41 = .ok (.invokevirtual 291, 3) := by decide +kernel
theorem dX12_added_44 : decode cX12_added 44 = .ok (.aload_n 0, 1) := by decide +kernel
theorem dX12_added_45 : decode cX12_added 45 = .ok (.invokevirtual 345, 3) := by decide +kernel
theorem dX12_added_48 : decode cX12_added 48 = .ok (.istore_n 3, 1) := by decide +kernel
theorem dX12_added_49 : decode cX12_added 49 = .ok (.iload_n 2, 1) := by decide +kernel
theorem dX12_added_50 : decode cX12_added 50 = .ok (.ifCond .eq 9, 3) := by decide +kernel
theorem dX12_added_53 : decode cX12_added 53 = .ok (.iload_n 1, 1) := by decide +kernel
theorem dX12_added_54 : decode cX12_added 54 = .ok (.iload_n 3, 1) := by decide +kernel
theorem dX12_added_55 : decode cX12_added 55 = .ok (.iadd, 1) := by decide +kernel
theorem dX12_added_56 : decode cX12_added 56 = .ok (.goto 6, 3) := by decide +kernel
theorem dX12_added_59 : decode cX12_added 59 = .ok (.iload_n 1, 1) := by decide +kernel
theorem dX12_added_60 : decode cX12_added 60 = .ok (.iload_n 3, 1) := by decide +kernel
theorem dX12_added_61 : decode cX12_added 61 = .ok (.isub, 1) := by decide +kernel
theorem dX12_added_62 : decode cX12_added 62 = .ok (.istore_n 1, 1) := by decide +kernel
theorem dX12_added_63 : decode cX12_added 63 = .ok (.goto (-58), 3) := by decide +kernel
theorem dX12_added_66 : decode cX12_added 66 = .ok (.iload_n 1, 1) := by decide +kernel
theorem dX12_added_67 : decode cX12_added 67 = .ok (.ireturn, 1) := by decide +kernel
theorem dX12_not_0 : decode cX12_not 0 = .ok (.aload_n 0, 1) := by decide +kernel
theorem dX12_not_1 : decode cX12_not 1 = .ok (.ldc2_w 350, 3) := by decide +kernel
theorem dX12_not_4 : decode cX12_not 4 = .ok (.invokevirtual 296, 3) := by decide +kernel
theorem dX12_not_7 : decode cX12_not 7 = .ok (.ifCond .eq 37, 3) := by decide +kernel
theorem dX12_not_10 : decode cX12_not 10 = .ok (.aload_n 0, 1) := by decide +kernel
theorem dX12_not_11 : decode cX12_not 11 = .ok (.invokevirtual 331, 3) := by decide +kernel
theorem dX12_not_14 : decode cX12_not 14 = .ok (.ifCond .ne 5, 3) := by decide +kernel
theorem dX12_not_17 : decode cX12_not 17 = .ok (.iconst 0, 1) := by decide +kernel
theorem dX12_not_18 : decode cX12_not 18 = .ok (.ireturn, 1) := by decide +kernel
theorem dX12_not_19 : decode cX12_not 19 = .ok (.aload_n 0, 1) := by decide +kernel
theorem dX12_not_20 : decode cX12_not 20 = .ok (.invokevirtual 352, 3) := by decide +kernel
theorem dX12_not_23 : decode cX12_not 23 = .ok (.istore_n 1, 1) := by decide +kernel
theorem dX12_not_24 : decode cX12_not 24 = .ok (.aload_n 0, 1) := by decide +kernel
theorem dX12_not_25 : decode cX12_not 25 = .ok (.dup, 1) := by decide +kernel
theorem dX12_not_26 : decode cX12_not 26 = .ok (.getfield 285, 3) := by decide +kernel
theorem dX12_not_29 : decode cX12_not 29 = .ok (.iconst 1, 1) := by decide +kernel
theorem dX12_not_30 : decode cX12_not 30 = .ok (.isub, 1) := by decide +kernel
theorem dX12_not_31 : decode cX12_not 31 = .ok (.putfield 285, 3) := by decide +kernel
theorem dX12_not_34 : decode cX12_not 34 = .ok (.iload_n 1, 1) := by decide +kernel
theorem dX12_not_35 : decode cX12_not 35 = .ok (.ifCond .ne 7, 3) := by decide +kernel
theorem dX12_not_38 : decode cX12_not 38 = .ok (.iconst 1, 1) := by decide +kernel
theorem dX12_not_39 : decode cX12_not 39 = .ok (.goto 4, 3) := by decide +kernel
theorem dX12_not_42 : decode cX12_not 42 = .ok (.iconst 0, 1) := by decide +kernel
theorem dX12_not_43 : decode cX12_not 43 = .ok (.ireturn, 1) := by decide +kernel
theorem dX12_not_44 : decode cX12_not 44 = .ok (.aload_n 0, 1) := by decide +kernel
theorem dX12_not_45 : decode cX12_not 45 = .ok (.invokevirtual 355, 3) := by decide +kernel
theorem dX12_not_48 : decode cX12_not 48 = .ok (.istore_n 1, 1) := by decide +kernel
theorem dX12_not_49 : decode cX12_not 49 = .ok (.aload_n 0, 1) := by decide +kernel
theorem dX12_not_50 : decode cX12_not 50 = .ok (.bipush 60, 2) := by decide +kernel
theorem dX12_not_52 : decode cX12_not 52 = .ok (.invokevirtual 328, 3) := by decide +kernel
theorem dX12_not_55 : decode cX12_not 55 = .ok (.ifCond .ne 14, 3) := by decide +kernel
theorem dX12_not_58 : decode cX12_not 58 = .ok (.aload_n 0, 1) := by decide +kernel
theorem dX12_not_59 : decode cX12_not 59 = .ok (.bipush 61, 2) := by decide +kernel
theorem dX12_not_61 : decode cX12_not 61 = .ok (.invokevirtual 328, 3) := by decide +kernel
theorem dX12_not_64 : decode cX12_not 64 = .ok (.ifCond .ne 5, 3) := by decide +kernel
theorem dX12_not_67 : decode cX12_not 67 = .ok (.iload_n 1, 1) := by decide +kernel
theorem dX12_not_68 : decode cX12_not 68 = .ok (.ireturn, 1) := by decide +kernel
theorem dX12_not_69 : decode cX12_not 69 = .ok (.aload_n 0, 1) := by decide +kernel
theorem dX12_not_70 : decode cX12_not 70 = .ok (.getfield 264, 3) := by decide +kernel
theorem dX12_not_73 : decode cX12_not 73 = .ok (.ldc2_w 358, 3) := by decide +kernel
theorem dX12_not_76 : decode cX12_not 76 = .ok (.lcmp, 1) := by decide +kernel
theorem dX12_not_77 : decode cX12_not 77 = .ok (.ifCond .ne 7, 3) := by decide +kernel
theorem dX12_not_80 : decode cX12_not 80 = .ok (.iconst 1, 1) := by decide +kernel
theorem dX12_not_81 : decode cX12_not 81 = .ok (.goto 4, 3) := by decide +kernel
theorem dX12_not_84 : decode cX12_not 84 = .ok (.iconst 0, 1) := by decide +kernel
theorem dX12_not_85 : decode cX12_not 85 = .ok (.istore_n 2, 1) := by decide +kernel
theorem dX12_not_86 : decode cX12_not 86 = .ok (.aload_n 0, 1) := by decide +kernel
theorem dX12_not_87 : decode cX12_not 87 = .ok (.invokevirtual 291, 3) := by decide +kernel
theorem dX12_not_90 : decode cX12_not 90 = .ok (.aload_n 0, 1) := by decide +kernel
theorem dX12_not_91 : decode cX12_not 91 = .ok (.invokevirtual 355, 3) := by decide +kernel
theorem dX12_not_94 : decode cX12_not 94 = .ok (.istore_n 3, 1) := by decide +kernel
theorem dX12_not_95 : decode cX12_not 95 = .ok (.iload_n 2, 1) := by decide +kernel
theorem dX12_not_96 : decode cX12_not 96 = .ok (.ifCond .eq 11, 3) := by decide +kernel
theorem dX12_not_99 : decode cX12_not 99 = .ok (.iload_n 1, 1) := by decide +kernel
theorem dX12_not_100 : decode cX12_not 100 = .ok (.iload_n 3, 1) := by decide +kernel
theorem dX12_not_101 : decode cX12_not 101 = .ok (.if_icmp .ge 15, 3) := by decide +kernel
theorem dX12_not_104 : decode cX12_not 104 = .ok (.goto 8, 3) := by decide +kernel
theorem dX12_not_107 : decode cX12_not 107 = .ok (.iload_n 1, 1) := by decide +kernel
theorem dX12_not_108 : decode cX12_not 108 = .ok (.iload_n 3, 1) := by decide +kernel
theorem dX12_not_109 : decode cX12_not 109 = .ok (.if_icmp .ne 7, 3) := by decide +kernel
theorem dX12_not_112 : decode cX12_not 112 = .ok (.iconst 1, 1) := by decide +kernel
theorem dX12_not_113 : decode cX12_not 113 = .ok (.goto 4, 3) := by decide +kernel
theorem dX12_not_116 : decode cX12_not 116 = .ok (.iconst 0, 1) := by decide +kernel
theorem dX12_not_117 : decode cX12_not 117 = .ok (.ireturn, 1) := by decide +kernel
theorem dX12_both_0 : decode cX12_both 0 = .ok (.aload_n 0, 1) := by decide +kernel
theorem dX12_both_1 : decode cX12_both 1 = .ok (.invokevirtual 352, 3) := by decide +kernel
theorem dX12_both_4 : decode cX12_both 4 = .ok (.istore_n 1, 1) := by decide +kernel
theorem dX12_both_5 : decode cX12_both 5 = .ok (.aload_n 0, 1) := by decide +kernel
theorem dX12_both_6 : decode cX12_both 6 = .ok (.ldc2_w 360, 3) := by decide +kernel
theorem dX12_both_9 : decode cX12_both 9 = .ok (.invokevirtual 296, 3) := by decide +kernel
theorem dX12_both_12 : decode cX12_both 12 = .ok (.ifCond .eq 29, 3) := by decide +kernel
theorem dX12_both_15 : decode cX12_both 15 = .ok (.aload_n 0, 1) := by decide +kernel
theorem dX12_both_16 : decode cX12_both 16 = .ok (.invokevirtual 291, 3) := by decide +kernel
theorem dX12_both_19 : decode cX12_both 19 = .ok (.aload_n 0, 1) := by decide +kernel
theorem dX12_both_20 : decode cX12_both 20 = .ok (.invokevirtual 352, 3) := by decide +kernel
theorem dX12_both_23 : decode cX12_both 23 = .ok (.istore_n 2, 1) := by decide +kernel
theorem dX12_both_24 : decode cX12_both 24 = .ok (.iload_n 1, 1) := by decide +kernel
theorem dX12_both_25 : decode cX12_both 25 = .ok (.ifCond .eq 11, 3) := by decide +kernel
theorem dX12_both_28 : decode cX12_both 28 = .ok (.iload_n 2, 1) := by decide +kernel
theorem dX12_both_29 : decode cX12_both 29 = .ok (.ifCond .eq 7, 3) := by decide +kernel
theorem dX12_both_32 : decode cX12_both 32 = .ok (.iconst 1, 1) := by decide +kernel
theorem dX12_both_33 : decode cX12_both 33 = .ok (.goto 4, 3) := by decide +kernel
theorem dX12_both_36 : decode cX12_both 36 = .ok (.iconst 0, 1) := by decide +kernel
theorem dX12_both_37 : decode cX12_both 37 = .ok (.istore_n 1, 1) := by decide +kernel
theorem dX12_both_38 : decode cX12_both 38 = .ok (.goto (-33), 3) := by decide +kernel
theorem dX12_both_41 : decode cX12_both 41 = .ok (.iload_n 1, 1) := by decide +kernel
theorem dX12_both_42 : decode cX12_both 42 = .ok (.ireturn, 1) := by decide +kernel
theorem dX12_either_0 : decode cX12_either 0 = .ok (.aload_n 0, 1) := by decide +kernel
theorem dX12_either_1 : decode cX12_either 1 = .ok (.invokevirtual 362, 3) := by decide +kernel
theorem dX12_either_4 : decode cX12_either 4 = .ok (.istore_n 1, 1) := by decide +kernel
theorem dX12_either_5 : decode cX12_either 5 = .ok (.aload_n 0, 1) := by decide +kernel
theorem dX12_either_6 : decode cX12_either 6 = .ok (.ldc2_w 365, 3) := by decide +kernel
theorem dX12_either_9 : decode cX12_either 9 = .ok (.invokevirtual 296, 3) := by decide +kernel
theorem dX12_either_12 : decode cX12_either 12 = .ok (.ifCond .eq 29, 3) := by decide +kernel
theorem dX12_either_15 : decode cX12_either 15 = .ok (.aload_n 0, 1) := by decide +kernel
theorem dX12_either_16 : decode cX12_either 16 = .ok (.invokevirtual 291, 3) := by decide +kernel
theorem dX12_either_19 : decode cX12_either 19 = .ok (.aload_n 0, 1) := by decide +kernel
theorem dX12_either_20 : decode cX12_either 20 = .ok (.invokevirtual 362, 3) := by decide +kernel
theorem dX12_either_23 : decode cX12_either 23 = .ok (.istore_n 2, 1) := by decide +kernel
theorem dX12_either_24 : decode cX12_either 24 = .ok (.iload_n 1, 1) := by decide +kernel
theorem dX12_either_25 : decode cX12_either 25 = .ok (.ifCond .ne 7, 3) := by decide +kernel
theorem dX12_either_28 : decode cX12_either 28 = .ok (.iload_n 2, 1) := by decide +kernel
theorem dX12_either_29 : decode cX12_either 29 = .ok (.ifCond .eq 7, 3) := by decide +kernel
theorem dX12_either_32 : decode cX12_either 32 = .ok (.iconst 1, 1) := by decide +kernel
theorem dX12_either_33 : decode cX12_either 33 = .ok (.goto 4, 3) := by decide +kernel
theorem dX12_either_36 : decode cX12_either 36 = .ok (.iconst 0, 1) := by decide +kernel
theorem dX12_either_37 : decode cX12_either 37 = .ok (.istore_n 1, 1) := by decide +kernel
theorem dX12_either_38 : decode cX12_either 38 = .ok (.goto (-33), 3) := by decide +kernel
theorem dX12_either_41 : decode cX12_either 41 = .ok (.iload_n 1, 1) := by decide +kernel
theorem dX12_either_42 : decode cX12_either 42 = .ok (.ireturn, 1) := by decide +kernel
theorem dX12_part_0 : decode cX12_part 0 = .ok (.aload_n 0, 1) := by decide +kernel
theorem dX12_part_1 : decode cX12_part 1 = .ok (.lload_n 1, 1) := by decide +kernel
theorem dX12_part_2 : decode cX12_part 2 = .ok (.invokevirtual 296, 3) := by decide +kernel
theorem dX12_part_5 : decode cX12_part 5 = .ok (.ifCond .ne 7, 3) := by decide +kernel
theorem dX12_part_8 : decode cX12_part 8 = .ok (.aload_n 0, 1) := by decide +kernel
theorem dX12_part_9 : decode cX12_part 9 = .ok (.invokevirtual 288, 3) := by decide +kernel
theorem dX12_part_12 : decode cX12_part 12 = .ok (.aload_n 0, 1) := by decide +kernel
theorem dX12_part_13 : decode cX12_part 13 = .ok (.getfield 278, 3) := by decide +kernel
theorem dX12_part_16 : decode cX12_part 16 = .ok (.ifCond .ne 7, 3) := by decide +kernel
theorem dX12_part_19 : decode cX12_part 19 = .ok (.aload_n 0, 1) := by decide +kernel
theorem dX12_part_20 : decode cX12_part 20 = .ok (.invokevirtual 291, 3) := by decide +kernel
theorem dX12_part_23 : decode cX12_part 23 = .ok (.aload_n 0, 1) := by decide +kernel
theorem dX12_part_24 : decode cX12_part 24 = .ok (.getfield 278, 3) := by decide +kernel
theorem dX12_part_27 : decode cX12_part 27 = .ok (.ifCond .eq 7, 3) := by decide +kernel
theorem dX12_part_30 : decode cX12_part 30 = .ok (.iconst 0, 1) := by decide +kernel
theorem dX12_part_31 : decode cX12_part 31 = .ok (.goto 7, 3) := by decide +kernel
theorem dX12_part_34 : decode cX12_part 34 = .ok (.aload_n 0, 1) := by decide +kernel
theorem dX12_part_35 : decode cX12_part 35 = .ok (.invokevirtual 339, 3) := by decide +kernel
theorem dX12_part_38 : decode cX12_part 38 = .ok (.istore_n 3, 1) := by decide +kernel
theorem dX12_part_39 : decode cX12_part 39 = .ok (.aload_n 0, 1) := by decide +kernel
theorem dX12_part_40 : decode cX12_part 40 = .ok (.bipush 59, 2) := by decide +kernel
theorem dX12_part_42 : decode cX12_part 42 = .ok (.invokevirtual 328, 3) := by decide +kernel
theorem dX12_part_45 : decode cX12_part 45 = .ok (.ifCond .ne 7, 3) := by decide +kernel
theorem dX12_part_48 : decode cX12_part 48 = .ok (.aload_n 0, 1) := by decide +kernel
theorem dX12_part_49 : decode cX12_part 49 = .ok (.invokevirtual 288, 3) := by decide +kernel
theorem dX12_part_52 : decode cX12_part 52 = .ok (.aload_n 0, 1) := by decide +kernel
theorem dX12_part_53 : decode cX12_part 53 = .ok (.getfield 278, 3) := by decide +kernel
theorem dX12_part_56 : decode cX12_part 56 = .ok (.ifCond .ne 7, 3) := by decide +kernel
theorem dX12_part_59 : decode cX12_part 59 = .ok (.aload_n 0, 1) := by decide +kernel
theorem dX12_part_60 : decode cX12_part 60 = .ok (.invokevirtual 291, 3) := by decide +kernel
theorem dX12_part_63 : decode cX12_part 63 = .ok (.iload_n 3, 1) := by decide +kernel
theorem dX12_part_64 : decode cX12_part 64 = .ok (.ireturn, 1) := by decide +kernel
theorem dX12_read_0 : decode cX12_read 0 = .ok (.aload_n 0, 1) := by decide +kernel
theorem dX12_read_1 : decode cX12_read 1 = .ok (.sipush 160, 3) := by decide +kernel
theorem dX12_read_4 : decode cX12_read 4 = .ok (.iload_n 1, 1) := by decide +kernel
theorem dX12_read_5 : decode cX12_read 5 = .ok (.imul, 1) := by decide +kernel
theorem dX12_read_6 : decode cX12_read 6 = .ok (.putfield 245, 3) := by decide +kernel
theorem dX12_read_9 : decode cX12_read 9 = .ok (.aload_n 0, 1) := by decide +kernel
theorem dX12_read_10 : decode cX12_read 10 = .ok (.aload_n 0, 1) := by decide +kernel
theorem dX12_read_11 : decode cX12_read 11 = .ok (.getfield 17, 3) := by decide +kernel
theorem dX12_read_14 : decode cX12_read 14 = .ok (.iload_n 1, 1) := by decide +kernel
theorem dX12_read_15 : decode cX12_read 15 = .ok (.iaload, 1) := by decide +kernel
theorem dX12_read_16 : decode cX12_read 16 = .ok (.putfield 242, 3) := by decide +kernel
theorem dX12_read_19 : decode cX12_read 19 = .ok (.aload_n 0, 1) := by decide +kernel
theorem dX12_read_20 : decode cX12_read 20 = .ok (.iconst 0, 1) := by decide +kernel
theorem dX12_read_21 : decode cX12_read 21 = .ok (.putfield 248, 3) := by decide +kernel
theorem dX12_read_24 : decode cX12_read 24 = .ok (.aload_n 0, 1) := by decide +kernel
theorem dX12_read_25 : decode cX12_read 25 = .ok (.iconst 0, 1) := by decide +kernel
theorem dX12_read_26 : decode cX12_read 26 = .ok (.putfield 285, 3) := by decide +kernel
theorem dX12_read_29 : decode cX12_read 29 = .ok (.aload_n 0, 1) := by decide +kernel
theorem dX12_read_30 : decode cX12_read 30 = .ok (.iconst 0, 1) := by decide +kernel
theorem dX12_read_31 : decode cX12_read 31 = .ok (.putfield 278, 3) := by decide +kernel
theorem dX12_read_34 : decode cX12_read 34 = .ok (.aload_n 0, 1) := by decide +kernel
theorem dX12_read_35 : decode cX12_read 35 = .ok (.invokevirtual 291, 3) := by decide +kernel
theorem dX12_read_38 : decode cX12_read 38 = .ok (.aload_n 0, 1) := by decide +kernel
theorem dX12_read_39 : decode cX12_read 39 = .ok (.ldc2_w 367, 3) := by decide +kernel
theorem dX12_read_42 : decode cX12_read 42 = .ok (.invokevirtual 369, 3) := by decide +kernel
theorem dX12_read_45 : decode cX12_read 45 = .ok (.istore_n 3, 1) := by decide +kernel
theorem dX12_read_46 : decode cX12_read 46 = .ok (.aload_n 0, 1) := by decide +kernel
theorem dX12_read_47 : decode cX12_read 47 = .ok (.getfield 278, 3) := by decide +kernel
theorem dX12_read_50 : decode cX12_read 50 = .ok (.ifCond .eq 7, 3) := by decide +kernel
theorem dX12_read_53 : decode cX12_read 53 = .ok (.iconst 0, 1) := by decide +kernel
theorem dX12_read_54 : decode cX12_read 54 = .ok (.goto 10, 3) := by decide +kernel
theorem dX12_read_57 : decode cX12_read 57 = .ok (.aload_n 0, 1) := by decide +kernel
theorem dX12_read_58 : decode cX12_read 58 = .ok (.ldc2_w 373, 3) := by decide +kernel
theorem dX12_read_61 : decode cX12_read 61 = .ok (.invokevirtual 369, 3) := by decide +kernel
theorem dX12_read_64 : decode cX12_read 64 = .ok (.istore 4, 2) := by decide +kernel
theorem dX12_read_66 : decode cX12_read 66 = .ok (.aload_n 0, 1) := by decide +kernel
theorem dX12_read_67 : decode cX12_read 67 = .ok (.getfield 278, 3) := by decide +kernel
theorem dX12_read_70 : decode cX12_read 70 = .ok (.ifCond .eq 7, 3) := by decide +kernel
theorem dX12_read_73 : decode cX12_read 73 = .ok (.iconst 0, 1) := by decide +kernel
theorem dX12_read_74 : decode cX12_read 74 = .ok (.goto 10, 3) := by decide +kernel
theorem dX12_read_77 : decode cX12_read 77 = .ok (.aload_n 0, 1) := by decide +kernel
theorem dX12_read_78 : decode cX12_read 78 = .ok (.ldc2_w 375, 3) := by decide +kernel
theorem dX12_read_81 : decode cX12_read 81 = .ok (.invokevirtual 369, 3) := by decide +kernel
theorem dX12_read_84 : decode cX12_read 84 = .ok (.istore 5, 2) := by decide +kernel
theorem dX12_read_86 : decode cX12_read 86 = .ok (.aload_n 0, 1) := by decide +kernel
theorem dX12_read_87 : decode cX12_read 87 = .ok (.getfield 278, 3) := by decide +kernel
theorem dX12_read_90 : decode cX12_read 90 = .ok (.ifCond .ne 14, 3) := by decide +kernel
theorem dX12_read_93 : decode cX12_read 93 = .ok (.aload_n 0, 1) := by decide +kernel
theorem dX12_read_94 : decode cX12_read 94 = .ok (.getfield 257, 3) := by decide +kernel
theorem dX12_read_97 : decode cX12_read 97 = .ok (.ifCond .eq 7, 3) := by decide +kernel
theorem dX12_read_100 : decode cX12_read 100 = .ok (.aload_n 0, 1) := by decide +kernel
theorem dX12_read_101 : decode cX12_read 101 = .ok (.invokevirtual 288, 3) := by decide +kernel
theorem dX12_read_104 : decode cX12_read 104 = .ok (.iload_n 2, 1) := by decide +kernel
theorem dX12_read_105 : decode cX12_read 105 = .ok (.ifCond .ne 7, 3) := by decide +kernel
theorem dX12_read_108 : decode cX12_read 108 = .ok (.iload_n 3, 1) := by decide +kernel
theorem dX12_read_109 : decode cX12_read 109 = .ok (.goto 15, 3) := by decide +kernel
theorem dX12_read_112 : decode cX12_read 112 = .ok (.iload_n 2, 1) := by decide +kernel
theorem dX12_read_113 : decode cX12_read 113 = .ok (.iconst 1, 1) := by decide +kernel
theorem dX12_read_114 : decode cX12_read 114 = .ok (.if_icmp .ne 8, 3) := by decide +kernel
theorem dX12_read_117 : decode cX12_read 117 = .ok (.iload 4, 2) := by decide +kernel
theorem dX12_read_119 : decode cX12_read 119 = .ok (.goto 5, 3) := by decide +kernel
theorem dX12_read_122 : decode cX12_read 122 = .ok (.iload 5, 2) := by decide +kernel
theorem dX12_read_124 : decode cX12_read 124 = .ok (.ireturn, 1) := by decide +kernel
theorem dX12_text_0 : decode cX12_text 0 = .ok (.aload_n 0, 1) := by decide +kernel
theorem dX12_text_1 : decode cX12_text 1 = .ok (.getfield 134, 3) := by decide +kernel
theorem dX12_text_4 : decode cX12_text 4 = .ok (.bipush 6, 2) := by decide +kernel
theorem dX12_text_6 : decode cX12_text 6 = .ok (.if_icmp .ne 6, 3) := by decide +kernel
theorem dX12_text_9 : decode cX12_text 9 = .ok (.bipush (-4), 2) := by decide +kernel
theorem dX12_text_11 : decode cX12_text 11 = .ok (.ireturn, 1) := by decide +kernel
theorem dX12_text_12 : decode cX12_text 12 = .ok (.iconst 0, 1) := by decide +kernel
theorem dX12_text_13 : decode cX12_text 13 = .ok (.istore_n 1, 1) := by decide +kernel
theorem dX12_text_14 : decode cX12_text 14 = .ok (.iload_n 1, 1) := by decide +kernel
theorem dX12_text_15 : decode cX12_text 15 = .ok (.aload_n 0, 1) := by decide +kernel
theorem dX12_text_16 : decode cX12_text 16 = .ok (.getfield 239, 3) := by decide +kernel
theorem dX12_text_19 : decode cX12_text 19 = .ok (.if_icmp .ge 30, 3) := by decide +kernel
theorem dX12_text_22 : decode cX12_text 22 = .ok (.aload_n 0, 1) := by decide +kernel
theorem dX12_text_23 : decode cX12_text 23 = .ok (.getfield 13, 3) := by decide +kernel
theorem dX12_text_26 : decode cX12_text 26 = .ok (.sipush 160, 3) := by decide +kernel
theorem dX12_text_29 : decode cX12_text 29 = .ok (.aload_n 0, 1) := by decide +kernel
theorem dX12_text_30 : decode cX12_text 30 = .ok (.getfield 134, 3) := by decide +kernel
theorem dX12_text_33 : decode cX12_text 33 = .ok (.imul, 1) := by decide +kernel
theorem dX12_text_34 : decode cX12_text 34 = .ok (.iload_n 1, 1) := by decide +kernel
theorem dX12_text_35 : decode cX12_text 35 = .ok (.iadd, 1) := by decide +kernel
theorem dX12_text_36 : decode cX12_text 36 = .ok (.aload_n 0, 1) := by decide +kernel
theorem dX12_text_37 : decode cX12_text 37 = .ok (.getfield 20, 3) := by decide +kernel
theorem dX12_text_40 : decode cX12_text 40 = .ok (.iload_n 1, 1) := by decide +kernel
theorem dX12_text_41 : decode cX12_text 41 = .ok (.iaload, 1) := by decide +kernel
theorem dX12_text_42 : decode cX12_text 42 = .ok (.iastore, 1) := by decide +kernel
theorem dX12_text_43 : decode cX12_text 43 = .ok (.iinc 1 1, 3) := by decide +kernel
theorem dX12_text_46 : decode cX12_text 46 = .ok (.goto (-32), 3) := by decide +kernel
theorem dX12_text_49 : decode cX12_text 49 = .ok (.aload_n 0, 1) := by decide +kernel
theorem dX12_text_50 : decode cX12_text 50 = .ok (.getfield 17, 3) := by decide +kernel
theorem dX12_text_53 : decode cX12_text 53 = .ok (.aload_n 0, 1) := by decide +kernel
theorem dX12_text_54 : decode cX12_text 54 = .ok (.getfield 134, 3) := by decide +kernel
theorem dX12_text_57 : decode cX12_text 57 = .ok (.aload_n 0, 1) := by decide +kernel
theorem dX12_text_58 : decode cX12_text 58 = .ok (.getfield 239, 3) := by decide +kernel
theorem dX12_text_61 : decode cX12_text 61 = .ok (.iastore, 1) := by decide +kernel
theorem dX12_text_62 : decode cX12_text 62 = .ok (.aload_n 0, 1) := by decide +kernel
theorem dX12_text_63 : decode cX12_text 63 = .ok (.iconst 0, 1) := by decide +kernel
theorem dX12_text_64 : decode cX12_text 64 = .ok (.putfield 239, 3) := by decide +kernel
theorem dX12_text_67 : decode cX12_text 67 = .ok (.aload_n 0, 1) := by decide +kernel
theorem dX12_text_68 : decode cX12_text 68 = .ok (.aload_n 0, 1) := by decide +kernel
theorem dX12_text_69 : decode cX12_text 69 = .ok (.getfield 134, 3) := by decide +kernel
theorem dX12_text_72 : decode cX12_text 72 = .ok (.iconst 0, 1) := by decide +kernel
theorem dX12_text_73 : decode cX12_text 73 = .ok (.invokevirtual 377, 3) := by decide +kernel
theorem dX12_text_76 : decode cX12_text 76 = .ok (.istore_n 1, 1) := by decide +kernel
theorem dX12_text_77 : decode cX12_text 77 = .ok (.aload_n 0, 1) := by decide +kernel
theorem dX12_text_78 : decode cX12_text 78 = .ok (.getfield 278, 3) := by decide +kernel
theorem dX12_text_81 : decode cX12_text 81 = .ok (.ifCond .eq 11, 3) := by decide +kernel
theorem dX12_text_84 : decode cX12_text 84 = .ok (.bipush (-100), 2) := by decide +kernel
theorem dX12_text_86 : decode cX12_text 86 = .ok (.aload_n 0, 1) := by decide +kernel
theorem dX12_text_87 : decode cX12_text 87 = .ok (.getfield 282, 3) := by decide +kernel
theorem dX12_text_90 : decode cX12_text 90 = .ok (.isub, 1) := by decide +kernel
theorem dX12_text_91 : decode cX12_text 91 = .ok (.ireturn, 1) := by decide +kernel
theorem dX12_text_92 : decode cX12_text 92 = .ok (.aload_n 0, 1) := by decide +kernel
theorem dX12_text_93 : decode cX12_text 93 = .ok (.dup, 1) := by decide +kernel
theorem dX12_text_94 : decode cX12_text 94 = .ok (.getfield 134, 3) := by decide +kernel
theorem dX12_text_97 : decode cX12_text 97 = .ok (.iconst 1, 1) := by decide +kernel
theorem dX12_text_98 : decode cX12_text 98 = .ok (.iadd, 1) := by decide +kernel
theorem dX12_text_99 : decode cX12_text 99 = .ok (.putfield 134, 3) := by decide +kernel
theorem dX12_text_102 : decode cX12_text 102 = .ok (.aload_n 0, 1) := by decide +kernel
theorem dX12_text_103 : decode cX12_text 103 = .ok (.getfield 134, 3) := by decide +kernel
theorem dX12_text_106 : decode cX12_text 106 = .ok (.iconst 1, 1) := by decide +kernel
theorem dX12_text_107 : decode cX12_text 107 = .ok (.isub, 1) := by decide +kernel
theorem dX12_text_108 : decode cX12_text 108 = .ok (.ireturn, 1) := by decide +kernel
theorem dX12_force_0 : decode cX12_force 0 = .ok (.iload_n 1, 1) := by decide +kernel
theorem dX12_force_1 : decode cX12_force 1 = .ok (.i2l, 1) := by decide +kernel
theorem dX12_force_2 : decode cX12_force 2 = .ok (.lconst 0, 1) := by decide +kernel
theorem dX12_force_3 : decode cX12_force 3 = .ok (.aload_n 0, 1) := by decide +kernel
theorem dX12_force_4 : decode cX12_force 4 = .ok (.getfield 134, 3) := by decide +kernel
theorem dX12_force_7 : decode cX12_force 7 = .ok (.iconst 1, 1) := by decide +kernel
theorem dX12_force_8 : decode cX12_force 8 = .ok (.isub, 1) := by decide +kernel
theorem dX12_force_9 : decode cX12_force 9 = .ok (.i2l, 1) := by decide +kernel
theorem dX12_force_10 : decode cX12_force 10 = .ok (.invokestatic 142, 3) := by decide +kernel
theorem dX12_force_13 : decode cX12_force 13 = .ok (.ifCond .ne 6, 3) := by decide +kernel
theorem dX12_force_16 : decode cX12_force 16 = .ok (.bipush (-2), 2) := by decide +kernel
theorem dX12_force_18 : decode cX12_force 18 = .ok (.ireturn, 1) := by decide +kernel
theorem dX12_force_19 : decode cX12_force 19 = .ok (.aload_n 0, 1) := by decide +kernel
theorem dX12_force_20 : decode cX12_force 20 = .ok (.getfield 380, 3) := by decide +kernel
theorem dX12_force_23 : decode cX12_force 23 = .ok (.istore_n 2, 1) := by decide +kernel
theorem dX12_force_24 : decode cX12_force 24 = .ok (.aload_n 0, 1) := by decide +kernel
theorem dX12_force_25 : decode cX12_force 25 = .ok (.iload_n 1, 1) := by decide +kernel
theorem dX12_force_26 : decode cX12_force 26 = .ok (.putfield 380, 3) := by decide +kernel
theorem dX12_force_29 : decode cX12_force 29 = .ok (.iload_n 2, 1) := by decide +kernel
theorem dX12_force_30 : decode cX12_force 30 = .ok (.ireturn, 1) := by decide +kernel
theorem dX12_saysOf_0 : decode cX12_saysOf 0 = .ok (.aload_n 0, 1) := by decide +kernel
theorem dX12_saysOf_1 : decode cX12_saysOf 1 = .ok (.iconst 0, 1) := by decide +kernel
theorem dX12_saysOf_2 : decode cX12_saysOf 2 = .ok (.putfield 305, 3) := by decide +kernel
theorem dX12_saysOf_5 : decode cX12_saysOf 5 = .ok (.aload_n 0, 1) := by decide +kernel
theorem dX12_saysOf_6 : decode cX12_saysOf 6 = .ok (.iconst 0, 1) := by decide +kernel
theorem dX12_saysOf_7 : decode cX12_saysOf 7 = .ok (.putfield 310, 3) := by decide +kernel
theorem dX12_saysOf_10 : decode cX12_saysOf 10 = .ok (.iconst 0, 1) := by decide +kernel
theorem dX12_saysOf_11 : decode cX12_saysOf 11 = .ok (.istore_n 3, 1) := by decide +kernel
theorem dX12_saysOf_12 : decode cX12_saysOf 12 = .ok (.iload_n 3, 1) := by decide +kernel
theorem dX12_saysOf_13 : decode cX12_saysOf 13 = .ok (.iload_n 1, 1) := by decide +kernel
theorem dX12_saysOf_14 : decode cX12_saysOf 14 = .ok (.if_icmp .gt 60, 3) := by decide +kernel
theorem dX12_saysOf_17 : decode cX12_saysOf 17 = .ok (.aload_n 0, 1) := by decide +kernel
theorem dX12_saysOf_18 : decode cX12_saysOf 18 = .ok (.getfield 36, 3) := by decide +kernel
theorem dX12_saysOf_21 : decode cX12_saysOf 21 = .ok (.iload_n 3, 1) := by decide +kernel
theorem dX12_saysOf_22 : decode cX12_saysOf 22 = .ok (.iaload, 1) := by decide +kernel
theorem dX12_saysOf_23 : decode cX12_saysOf 23 = .ok (.aload_n 0, 1) := by decide +kernel
theorem dX12_saysOf_24 : decode cX12_saysOf 24 = .ok (.getfield 36, 3) := by decide +kernel
theorem dX12_saysOf_27 : decode cX12_saysOf 27 = .ok (.iload_n 1, 1) := by decide +kernel
theorem dX12_saysOf_28 : decode cX12_saysOf 28 = .ok (.iaload, 1) := by decide +kernel
theorem dX12_saysOf_29 : decode cX12_saysOf 29 = .ok (.if_icmp .eq 6, 3) := by decide +kernel
theorem dX12_saysOf_32 : decode cX12_saysOf 32 = .ok (.goto 36, 3) := by decide +kernel
theorem dX12_saysOf_35 : decode cX12_saysOf 35 = .ok (.aload_n 0, 1) := by decide +kernel
theorem dX12_saysOf_36 : decode cX12_saysOf 36 = .ok (.dup, 1) := by decide +kernel
theorem dX12_saysOf_37 : decode cX12_saysOf 37 = .ok (.getfield 305, 3) := by decide +kernel
theorem dX12_saysOf_40 : decode cX12_saysOf 40 = .ok (.iload_n 3, 1) := by decide +kernel
theorem dX12_saysOf_41 : decode cX12_saysOf 41 = .ok (.iload_n 1, 1) := by decide +kernel
theorem dX12_saysOf_42 : decode cX12_saysOf 42 = .ok (.if_icmp .ge 7, 3) := by decide +kernel
theorem dX12_saysOf_45 : decode cX12_saysOf 45 = .ok (.iconst 1, 1) := by decide +kernel
theorem dX12_saysOf_46 : decode cX12_saysOf 46 = .ok (.goto 4, 3) := by decide +kernel
theorem dX12_saysOf_49 : decode cX12_saysOf 49 = .ok (.iconst 0, 1) := by decide +kernel
theorem dX12_saysOf_50 : decode cX12_saysOf 50 = .ok (.iadd, 1) := by decide +kernel
theorem dX12_saysOf_51 : decode cX12_saysOf 51 = .ok (.putfield 305, 3) := by decide +kernel
theorem dX12_saysOf_54 : decode cX12_saysOf 54 = .ok (.aload_n 0, 1) := by decide +kernel
theorem dX12_saysOf_55 : decode cX12_saysOf 55 = .ok (.dup, 1) := by decide +kernel
theorem dX12_saysOf_56 : decode cX12_saysOf 56 = .ok (.getfield 310, 3) := by decide +kernel
theorem dX12_saysOf_59 : decode cX12_saysOf 59 = .ok (.aload_n 0, 1) := by decide +kernel
theorem dX12_saysOf_60 : decode cX12_saysOf 60 = .ok (.iload_n 3, 1) := by decide +kernel
theorem dX12_saysOf_61 : decode cX12_saysOf 61 = .ok (.invokevirtual 183, 3) := by decide +kernel
theorem dX12_saysOf_64 : decode cX12_saysOf 64 = .ok (.iadd, 1) := by decide +kernel
theorem dX12_saysOf_65 : decode cX12_saysOf 65 = .ok (.putfield 310, 3) := by decide +kernel
theorem dX12_saysOf_68 : decode cX12_saysOf 68 = .ok (.iinc 3 1, 3) := by decide +kernel
theorem dX12_saysOf_71 : decode cX12_saysOf 71 = .ok (.goto (-59), 3) := by decide +kernel
theorem dX12_saysOf_74 : decode cX12_saysOf 74 = .ok (.aload_n 0, 1) := by decide +kernel
theorem dX12_saysOf_75 : decode cX12_saysOf 75 = .ok (.aload_n 0, 1) := by decide +kernel
theorem dX12_saysOf_76 : decode cX12_saysOf 76 = .ok (.iload_n 1, 1) := by decide +kernel
theorem dX12_saysOf_77 : decode cX12_saysOf 77 = .ok (.invokevirtual 183, 3) := by decide +kernel
theorem dX12_saysOf_80 : decode cX12_saysOf 80 = .ok (.putfield 300, 3) := by decide +kernel
theorem dX12_saysOf_83 : decode cX12_saysOf 83 = .ok (.aload_n 0, 1) := by decide +kernel
theorem dX12_saysOf_84 : decode cX12_saysOf 84 = .ok (.aload_n 0, 1) := by decide +kernel
theorem dX12_saysOf_85 : decode cX12_saysOf 85 = .ok (.iload_n 1, 1) := by decide +kernel
theorem dX12_saysOf_86 : decode cX12_saysOf 86 = .ok (.invokevirtual 196, 3) := by decide +kernel
theorem dX12_saysOf_89 : decode cX12_saysOf 89 = .ok (.putfield 315, 3) := by decide +kernel
theorem dX12_saysOf_92 : decode cX12_saysOf 92 = .ok (.aload_n 0, 1) := by decide +kernel
theorem dX12_saysOf_93 : decode cX12_saysOf 93 = .ok (.aload_n 0, 1) := by decide +kernel
theorem dX12_saysOf_94 : decode cX12_saysOf 94 = .ok (.getfield 39, 3) := by decide +kernel
theorem dX12_saysOf_97 : decode cX12_saysOf 97 = .ok (.iload_n 1, 1) := by decide +kernel
theorem dX12_saysOf_98 : decode cX12_saysOf 98 = .ok (.iaload, 1) := by decide +kernel
theorem dX12_saysOf_99 : decode cX12_saysOf 99 = .ok (.putfield 320, 3) := by decide +kernel
theorem dX12_saysOf_102 : decode cX12_saysOf 102 = .ok (.aload_n 0, 1) := by decide +kernel
theorem dX12_saysOf_103 : decode cX12_saysOf 103 = .ok (.aload_n 0, 1) := by decide +kernel
theorem dX12_saysOf_104 : decode cX12_saysOf 104 = .ok (.iload_n 1, 1) := by decide +kernel
theorem dX12_saysOf_105 : decode cX12_saysOf 105 = .ok (.invokevirtual 187, 3) := by decide +kernel
theorem dX12_saysOf_108 : decode cX12_saysOf 108 = .ok (.putfield 325, 3) := by decide +kernel
theorem dX12_saysOf_111 : decode cX12_saysOf 111 = .ok (.iload_n 2, 1) := by decide +kernel
theorem dX12_saysOf_112 : decode cX12_saysOf 112 = .ok (.iconst 2, 1) := by decide +kernel
theorem dX12_saysOf_113 : decode cX12_saysOf 113 = .ok (.if_icmp .ne 16, 3) := by decide +kernel
theorem dX12_saysOf_116 : decode cX12_saysOf 116 = .ok (.aload_n 0, 1) := by decide +kernel
theorem dX12_saysOf_117 : decode cX12_saysOf 117 = .ok (.iconst 0, 1) := by decide +kernel
theorem dX12_saysOf_118 : decode cX12_saysOf 118 = .ok (.putfield 305, 3) := by decide +kernel
theorem dX12_saysOf_121 : decode cX12_saysOf 121 = .ok (.aload_n 0, 1) := by decide +kernel
theorem dX12_saysOf_122 : decode cX12_saysOf 122 = .ok (.aload_n 0, 1) := by decide +kernel
theorem dX12_saysOf_123 : decode cX12_saysOf 123 = .ok (.getfield 300, 3) := by decide +kernel
theorem dX12_saysOf_126 : decode cX12_saysOf 126 = .ok (.putfield 310, 3) := by decide +kernel
theorem dX12_saysOf_129 : decode cX12_saysOf 129 = .ok (.aload_n 0, 1) := by decide +kernel
theorem dX12_saysOf_130 : decode cX12_saysOf 130 = .ok (.aload_n 0, 1) := by decide +kernel
theorem dX12_saysOf_131 : decode cX12_saysOf 131 = .ok (.getfield 380, 3) := by decide +kernel
theorem dX12_saysOf_134 : decode cX12_saysOf 134 = .ok (.iload_n 2, 1) := by decide +kernel
theorem dX12_saysOf_135 : decode cX12_saysOf 135 = .ok (.invokevirtual 377, 3) := by decide +kernel
theorem dX12_saysOf_138 : decode cX12_saysOf 138 = .ok (.ireturn, 1) := by decide +kernel
theorem dX12_common_0 : decode cX12_common 0 = .ok (.lload_n 0, 1) := by decide +kernel
theorem dX12_common_1 : decode cX12_common 1 = .ok (.lconst 0, 1) := by decide +kernel
theorem dX12_common_2 : decode cX12_common 2 = .ok (.lcmp, 1) := by decide +kernel
theorem dX12_common_3 : decode cX12_common 3 = .ok (.ifCond .ge 8, 3) := by decide +kernel
theorem dX12_common_6 : decode cX12_common 6 = .ok (.lload_n 0, 1) := by decide +kernel
theorem dX12_common_7 : decode cX12_common 7 = .ok (.lneg, 1) := by decide +kernel
theorem dX12_common_8 : decode cX12_common 8 = .ok (.goto 4, 3) := by decide +kernel
theorem dX12_common_11 : decode cX12_common 11 = .ok (.lload_n 0, 1) := by decide +kernel
theorem dX12_common_12 : decode cX12_common 12 = .ok (.lstore 4, 2) := by decide +kernel
theorem dX12_common_14 : decode cX12_common 14 = .ok (.lload_n 2, 1) := by decide +kernel
theorem dX12_common_15 : decode cX12_common 15 = .ok (.lstore 6, 2) := by decide +kernel
theorem dX12_common_17 : decode cX12_common 17 = .ok (.lload 6, 2) := by decide +kernel
theorem dX12_common_19 : decode cX12_common 19 = .ok (.lconst 0, 1) := by decide +kernel
theorem dX12_common_20 : decode cX12_common 20 = .ok (.lcmp, 1) := by decide +kernel
theorem dX12_common_21 : decode cX12_common 21 = .ok (.ifCond .eq 21, 3) := by decide +kernel
theorem dX12_common_24 : decode cX12_common 24 = .ok (.lload 4, 2) := by decide +kernel
theorem dX12_common_26 : decode cX12_common 26 = .ok (.lload 6, 2) := by decide +kernel
theorem dX12_common_28 : decode cX12_common 28 = .ok (.lrem, 1) := by decide +kernel
theorem dX12_common_29 : decode cX12_common 29 = .ok (.lstore 8, 2) := by decide +kernel
theorem dX12_common_31 : decode cX12_common 31 = .ok (.lload 6, 2) := by decide +kernel
theorem dX12_common_33 : decode cX12_common 33 = .ok (.lstore 4, 2) := by decide +kernel
theorem dX12_common_35 : decode cX12_common 35 = .ok (.lload 8, 2) := by decide +kernel
theorem dX12_common_37 : decode cX12_common 37 = .ok (.lstore 6, 2) := by decide +kernel
theorem dX12_common_39 : decode cX12_common 39 = .ok (.goto (-22), 3) := by decide +kernel
theorem dX12_common_42 : decode cX12_common 42 = .ok (.lload 4, 2) := by decide +kernel
theorem dX12_common_44 : decode cX12_common 44 = .ok (.lreturn, 1) := by decide +kernel
theorem dX12_adds_0 : decode cX12_adds 0 = .ok (.aload_n 0, 1) := by decide +kernel
theorem dX12_adds_1 : decode cX12_adds 1 = .ok (.getfield 383, 3) := by decide +kernel
theorem dX12_adds_4 : decode cX12_adds 4 = .ok (.lload_n 3, 1) := by decide +kernel
theorem dX12_adds_5 : decode cX12_adds 5 = .ok (.lmul, 1) := by decide +kernel
theorem dX12_adds_6 : decode cX12_adds 6 = .ok (.lload_n 1, 1) := by decide +kernel
theorem dX12_adds_7 : decode cX12_adds 7 = .ok (.aload_n 0, 1) := by decide +kernel
theorem dX12_adds_8 : decode cX12_adds 8 = .ok (.getfield 386, 3) := by decide +kernel
theorem dX12_adds_11 : decode cX12_adds 11 = .ok (.lmul, 1) := by decide +kernel
theorem dX12_adds_12 : decode cX12_adds 12 = .ok (.ladd, 1) := by decide +kernel
theorem dX12_adds_13 : decode cX12_adds 13 = .ok (.lstore 5, 2) := by decide +kernel
theorem dX12_adds_15 : decode cX12_adds 15 = .ok (.aload_n 0, 1) := by decide +kernel
theorem dX12_adds_16 : decode cX12_adds 16 = .ok (.getfield 386, 3) := by decide +kernel
theorem dX12_adds_19 : decode cX12_adds 19 = .ok (.lload_n 3, 1) := by decide +kernel
theorem dX12_adds_20 : decode cX12_adds 20 = .ok (.lmul, 1) := by decide +kernel
theorem dX12_adds_21 : decode cX12_adds 21 = .ok (.lstore 7, 2) := by decide +kernel
theorem dX12_adds_23 : decode cX12_adds 23 = .ok (.lload 5, 2) := by decide +kernel
theorem dX12_adds_25 : decode cX12_adds 25 = .ok (.lload 7, 2) := by decide +kernel
theorem dX12_adds_27 : decode cX12_adds 27 = .ok (.invokestatic 389, 3) := by decide +kernel
theorem dX12_adds_30 : decode cX12_adds 30 = .ok (.lstore 9, 2) := by decide +kernel
theorem dX12_adds_32 : decode cX12_adds 32 = .ok (.aload_n 0, 1) := by decide +kernel
theorem dX12_adds_33 : decode cX12_adds 33 = .ok (.lload 5, 2) := by decide +kernel
theorem dX12_adds_35 : decode cX12_adds 35 = .ok (.lload 9, 2) := by decide +kernel
theorem dX12_adds_37 : decode cX12_adds 37 = .ok (.ldiv, 1) := by decide +kernel
theorem dX12_adds_38 : decode cX12_adds 38 = .ok (.putfield 383, 3) := by decide +kernel
theorem dX12_adds_41 : decode cX12_adds 41 = .ok (.aload_n 0, 1) := by decide +kernel
theorem dX12_adds_42 : decode cX12_adds 42 = .ok (.lload 7, 2) := by decide +kernel
theorem dX12_adds_44 : decode cX12_adds 44 = .ok (.lload 9, 2) := by decide +kernel
theorem dX12_adds_46 : decode cX12_adds 46 = .ok (.ldiv, 1) := by decide +kernel
theorem dX12_adds_47 : decode cX12_adds 47 = .ok (.putfield 386, 3) := by decide +kernel
theorem dX12_adds_50 : decode cX12_adds 50 = .ok (.return_, 1) := by decide +kernel
theorem dX12_zero_0 : decode cX12_zero 0 = .ok (.aload_n 0, 1) := by decide +kernel
theorem dX12_zero_1 : decode cX12_zero 1 = .ok (.lconst 0, 1) := by decide +kernel
theorem dX12_zero_2 : decode cX12_zero 2 = .ok (.putfield 383, 3) := by decide +kernel
theorem dX12_zero_5 : decode cX12_zero 5 = .ok (.aload_n 0, 1) := by decide +kernel
theorem dX12_zero_6 : decode cX12_zero 6 = .ok (.lconst 1, 1) := by decide +kernel
theorem dX12_zero_7 : decode cX12_zero 7 = .ok (.putfield 386, 3) := by decide +kernel
theorem dX12_zero_10 : decode cX12_zero 10 = .ok (.return_, 1) := by decide +kernel
theorem dX12_expected_0 : decode cX12_expected 0 = .ok (.aload_n 0, 1) := by decide +kernel
theorem dX12_expected_1 : decode cX12_expected 1 = .ok (.iload_n 1, 1) := by decide +kernel
theorem dX12_expected_2 : decode cX12_expected 2 = .ok (.invokevirtual 207, 3) := by decide +kernel
theorem dX12_expected_5 : decode cX12_expected 5 = .ok (.iconst 0, 1) := by decide +kernel
theorem dX12_expected_6 : decode cX12_expected 6 = .ok (.istore_n 2, 1) := by decide +kernel
theorem dX12_expected_7 : decode cX12_expected 7 = .ok (.iconst 0, 1) := by decide +kernel
theorem dX12_expected_8 : decode cX12_expected 8 = .ok (.istore_n 3, 1) := by decide +kernel
theorem dX12_expected_9 : decode cX12_expected 9 = .ok (.iload_n 3, 1) := by decide +kernel
theorem dX12_expected_10 : decode cX12_expected 10 = .ok (.iconst 5, 1) := by decide +kernel
theorem dX12_expected_11 : decode cX12_expected 11 = .ok (.if_icmp .ge 34, 3) := by decide +kernel
theorem dX12_expected_14 : decode cX12_expected 14 = .ok (.iload_n 2, 1) := by decide +kernel
theorem dX12_expected_15 : decode cX12_expected 15 = .ok (.aload_n 0, 1) := by decide +kernel
theorem dX12_expected_16 : decode cX12_expected 16 = .ok (.getfield 66, 3) := by decide +kernel
theorem dX12_expected_19 : decode cX12_expected 19 = .ok (.iload_n 3, 1) := by decide +kernel
theorem dX12_expected_20 : decode cX12_expected 20 = .ok (.iaload, 1) := by decide +kernel
theorem dX12_expected_21 : decode cX12_expected 21 = .ok (.aload_n 0, 1) := by decide +kernel
theorem dX12_expected_22 : decode cX12_expected 22 = .ok (.getfield 27, 3) := by decide +kernel
theorem dX12_expected_25 : decode cX12_expected 25 = .ok (.iconst 5, 1) := by decide +kernel
theorem dX12_expected_26 : decode cX12_expected 26 = .ok (.aload_n 0, 1) := by decide +kernel
theorem dX12_expected_27 : decode cX12_expected 27 = .ok (.getfield 33, 3) := by decide +kernel
theorem dX12_expected_30 : decode cX12_expected 30 = .ok (.iload_n 1, 1) := by decide +kernel
theorem dX12_expected_31 : decode cX12_expected 31 = .ok (.iaload, 1) := by decide +kernel
theorem dX12_expected_32 : decode cX12_expected 32 = .ok (.imul, 1) := by decide +kernel
theorem dX12_expected_33 : decode cX12_expected 33 = .ok (.iload_n 3, 1) := by decide +kernel
theorem dX12_expected_34 : decode cX12_expected 34 = .ok (.iadd, 1) := by decide +kernel
theorem dX12_expected_35 : decode cX12_expected 35 = .ok (.iaload, 1) := by decide +kernel
theorem dX12_expected_36 : decode cX12_expected 36 = .ok (.imul, 1) := by decide +kernel
theorem dX12_expected_37 : decode cX12_expected 37 = .ok (.iadd, 1) := by decide +kernel
theorem dX12_expected_38 : decode cX12_expected 38 = .ok (.istore_n 2, 1) := by decide +kernel
theorem dX12_expected_39 : decode cX12_expected 39 = .ok (.iinc 3 1, 3) := by decide +kernel
theorem dX12_expected_42 : decode cX12_expected 42 = .ok (.goto (-33), 3) := by decide +kernel
theorem dX12_expected_45 : decode cX12_expected 45 = .ok (.iload_n 2, 1) := by decide +kernel
theorem dX12_expected_46 : decode cX12_expected 46 = .ok (.ireturn, 1) := by decide +kernel
theorem dX12_isGuesser_0 : decode cX12_isGuesser 0 = .ok (.iload_n 0, 1) := by decide +kernel
theorem dX12_isGuesser_1 : decode cX12_isGuesser 1 = .ok (.i2l, 1) := by decide +kernel
theorem dX12_isGuesser_2 : decode cX12_isGuesser 2 = .ok (.lconst 0, 1) := by decide +kernel
theorem dX12_isGuesser_3 : decode cX12_isGuesser 3 = .ok (.ldc2_w 153, 3) := by decide +kernel
theorem dX12_isGuesser_6 : decode cX12_isGuesser 6 = .ok (.invokestatic 142, 3) := by decide +kernel
theorem dX12_isGuesser_9 : decode cX12_isGuesser 9 = .ok (.ireturn, 1) := by decide +kernel
theorem dX12_series_0 : decode cX12_series 0 = .ok (.iload_n 1, 1) := by decide +kernel
theorem dX12_series_1 : decode cX12_series 1 = .ok (.invokestatic 393, 3) := by decide +kernel
theorem dX12_series_4 : decode cX12_series 4 = .ok (.ifCond .eq 25, 3) := by decide +kernel
theorem dX12_series_7 : decode cX12_series 7 = .ok (.iload_n 2, 1) := by decide +kernel
theorem dX12_series_8 : decode cX12_series 8 = .ok (.i2l, 1) := by decide +kernel
theorem dX12_series_9 : decode cX12_series 9 = .ok (.lconst 0, 1) := by decide +kernel
theorem dX12_series_10 : decode cX12_series 10 = .ok (.lconst 1, 1) := by decide +kernel
theorem dX12_series_11 : decode cX12_series 11 = .ok (.invokestatic 142, 3) := by decide +kernel
theorem dX12_series_14 : decode cX12_series 14 = .ok (.ifCond .eq 15, 3) := by decide +kernel
theorem dX12_series_17 : decode cX12_series 17 = .ok (.iload_n 3, 1) := by decide +kernel
theorem dX12_series_18 : decode cX12_series 18 = .ok (.i2l, 1) := by decide +kernel
theorem dX12_series_19 : decode cX12_series 19 = .ok (.lconst 0, 1) := by decide +kernel
theorem dX12_series_20 : decode cX12_series 20 = .ok (.ldc2_w 216, 3) := by decide +kernel
theorem dX12_series_23 : decode cX12_series 23 = .ok (.invokestatic 142, 3) := by decide +kernel
theorem dX12_series_26 : decode cX12_series 26 = .ok (.ifCond .ne 7, 3) := by decide +kernel
theorem dX12_series_29 : decode cX12_series 29 = .ok (.ldc2_w 205, 3) := by decide +kernel
theorem dX12_series_32 : decode cX12_series 32 = .ok (.lreturn, 1) := by decide +kernel
theorem dX12_series_33 : decode cX12_series 33 = .ok (.aload_n 0, 1) := by decide +kernel
theorem dX12_series_34 : decode cX12_series 34 = .ok (.invokevirtual 396, 3) := by decide +kernel
theorem dX12_series_37 : decode cX12_series 37 = .ok (.iconst 0, 1) := by decide +kernel
theorem dX12_series_38 : decode cX12_series 38 = .ok (.istore 4, 2) := by decide +kernel
theorem dX12_series_40 : decode cX12_series 40 = .ok (.iconst 0, 1) := by decide +kernel
theorem dX12_series_41 : decode cX12_series 41 = .ok (.istore 5, 2) := by decide +kernel
theorem dX12_series_43 : decode cX12_series 43 = .ok (.iconst 0, 1) := by decide +kernel
theorem dX12_series_44 : decode cX12_series 44 = .ok (.istore 6, 2) := by decide +kernel
theorem dX12_series_46 : decode cX12_series 46 = .ok (.iconst 0, 1) := by decide +kernel
theorem dX12_series_47 : decode cX12_series 47 = .ok (.istore 7, 2) := by decide +kernel
theorem dX12_series_49 : decode cX12_series 49 = .ok (.iload 7, 2) := by decide +kernel
theorem dX12_series_51 : decode cX12_series 51 = .ok (.aload_n 0, 1) := by decide +kernel
theorem dX12_series_52 : decode cX12_series 52 = .ok (.getfield 139, 3) := by decide +kernel
theorem dX12_series_55 : decode cX12_series 55 = .ok (.if_icmp .ge 96, 3) := by decide +kernel
theorem dX12_series_58 : decode cX12_series 58 = .ok (.iload 6, 2) := by decide +kernel
theorem dX12_series_60 : decode cX12_series 60 = .ok (.ifCond .ne 91, 3) := by decide +kernel
theorem dX12_series_63 : decode cX12_series 63 = .ok (.aload_n 0, 1) := by decide +kernel
theorem dX12_series_64 : decode cX12_series 64 = .ok (.getfield 36, 3) := by decide +kernel
theorem dX12_series_67 : decode cX12_series 67 = .ok (.iload 7, 2) := by decide +kernel
theorem dX12_series_69 : decode cX12_series 69 = .ok (.iaload, 1) := by decide +kernel
theorem dX12_series_70 : decode cX12_series 70 = .ok (.iload_n 1, 1) := by decide +kernel
theorem dX12_series_71 : decode cX12_series 71 = .ok (.if_icmp .ne 74, 3) := by decide +kernel
theorem dX12_series_74 : decode cX12_series 74 = .ok (.iload_n 2, 1) := by decide +kernel
theorem dX12_series_75 : decode cX12_series 75 = .ok (.iconst 1, 1) := by decide +kernel
theorem dX12_series_76 : decode cX12_series 76 = .ok (.if_icmp .ne 16, 3) := by decide +kernel
theorem dX12_series_79 : decode cX12_series 79 = .ok (.aload_n 0, 1) := by decide +kernel
theorem dX12_series_80 : decode cX12_series 80 = .ok (.iload 7, 2) := by decide +kernel
theorem dX12_series_82 : decode cX12_series 82 = .ok (.iconst 1, 1) := by decide +kernel
theorem dX12_series_83 : decode cX12_series 83 = .ok (.invokevirtual 199, 3) := by decide +kernel
theorem dX12_series_86 : decode cX12_series 86 = .ok (.ifCond .ne 6, 3) := by decide +kernel
theorem dX12_series_89 : decode cX12_series 89 = .ok (.goto 56, 3) := by decide +kernel
theorem dX12_series_92 : decode cX12_series 92 = .ok (.iinc 4 1, 3) := by decide +kernel
theorem dX12_series_95 : decode cX12_series 95 = .ok (.iload 5, 2) := by decide +kernel
theorem dX12_series_97 : decode cX12_series 97 = .ok (.aload_n 0, 1) := by decide +kernel
theorem dX12_series_98 : decode cX12_series 98 = .ok (.iload 7, 2) := by decide +kernel
theorem dX12_series_100 : decode cX12_series 100 = .ok (.invokevirtual 183, 3) := by decide +kernel
theorem dX12_series_103 : decode cX12_series 103 = .ok (.iadd, 1) := by decide +kernel
theorem dX12_series_104 : decode cX12_series 104 = .ok (.istore 5, 2) := by decide +kernel
theorem dX12_series_106 : decode cX12_series 106 = .ok (.aload_n 0, 1) := by decide +kernel
theorem dX12_series_107 : decode cX12_series 107 = .ok (.aload_n 0, 1) := by decide +kernel
theorem dX12_series_108 : decode cX12_series 108 = .ok (.iload 7, 2) := by decide +kernel
theorem dX12_series_110 : decode cX12_series 110 = .ok (.invokevirtual 399, 3) := by decide +kernel
theorem dX12_series_113 : decode cX12_series 113 = .ok (.i2l, 1) := by decide +kernel
theorem dX12_series_114 : decode cX12_series 114 = .ok (.aload_n 0, 1) := by decide +kernel
theorem dX12_series_115 : decode cX12_series 115 = .ok (.iload 7, 2) := by decide +kernel
theorem dX12_series_117 : decode cX12_series 117 = .ok (.invokevirtual 161, 3) := by decide +kernel
theorem dX12_series_120 : decode cX12_series 120 = .ok (.i2l, 1) := by decide +kernel
theorem dX12_series_121 : decode cX12_series 121 = .ok (.invokevirtual 402, 3) := by decide +kernel
theorem dX12_series_124 : decode cX12_series 124 = .ok (.iload_n 2, 1) := by decide +kernel
theorem dX12_series_125 : decode cX12_series 125 = .ok (.ifCond .ne 17, 3) := by decide +kernel
theorem dX12_series_128 : decode cX12_series 128 = .ok (.aload_n 0, 1) := by decide +kernel
theorem dX12_series_129 : decode cX12_series 129 = .ok (.iload 7, 2) := by decide +kernel
theorem dX12_series_131 : decode cX12_series 131 = .ok (.iconst 0, 1) := by decide +kernel
theorem dX12_series_132 : decode cX12_series 132 = .ok (.invokevirtual 199, 3) := by decide +kernel
theorem dX12_series_135 : decode cX12_series 135 = .ok (.ifCond .eq 7, 3) := by decide +kernel
theorem dX12_series_138 : decode cX12_series 138 = .ok (.iconst 1, 1) := by decide +kernel
theorem dX12_series_139 : decode cX12_series 139 = .ok (.goto 4, 3) := by decide +kernel
theorem dX12_series_142 : decode cX12_series 142 = .ok (.iconst 0, 1) := by decide +kernel
theorem dX12_series_143 : decode cX12_series 143 = .ok (.istore 6, 2) := by decide +kernel
theorem dX12_series_145 : decode cX12_series 145 = .ok (.iinc 7 1, 3) := by decide +kernel
theorem dX12_series_148 : decode cX12_series 148 = .ok (.goto (-99), 3) := by decide +kernel
theorem dX12_series_151 : decode cX12_series 151 = .ok (.iload_n 3, 1) := by decide +kernel
theorem dX12_series_152 : decode cX12_series 152 = .ok (.tableswitch 68 0 4 #[36, 40, 44, 49, 54], 36) := by decide +kernel
theorem dX12_series_188 : decode cX12_series 188 = .ok (.iload 4, 2) := by decide +kernel
theorem dX12_series_190 : decode cX12_series 190 = .ok (.i2l, 1) := by decide +kernel
theorem dX12_series_191 : decode cX12_series 191 = .ok (.lreturn, 1) := by decide +kernel
theorem dX12_series_192 : decode cX12_series 192 = .ok (.iload 5, 2) := by decide +kernel
theorem dX12_series_194 : decode cX12_series 194 = .ok (.i2l, 1) := by decide +kernel
theorem dX12_series_195 : decode cX12_series 195 = .ok (.lreturn, 1) := by decide +kernel
theorem dX12_series_196 : decode cX12_series 196 = .ok (.aload_n 0, 1) := by decide +kernel
theorem dX12_series_197 : decode cX12_series 197 = .ok (.getfield 383, 3) := by decide +kernel
theorem dX12_series_200 : decode cX12_series 200 = .ok (.lreturn, 1) := by decide +kernel
theorem dX12_series_201 : decode cX12_series 201 = .ok (.aload_n 0, 1) := by decide +kernel
theorem dX12_series_202 : decode cX12_series 202 = .ok (.getfield 386, 3) := by decide +kernel
theorem dX12_series_205 : decode cX12_series 205 = .ok (.lreturn, 1) := by decide +kernel
theorem dX12_series_206 : decode cX12_series 206 = .ok (.iload 5, 2) := by decide +kernel
theorem dX12_series_208 : decode cX12_series 208 = .ok (.i2l, 1) := by decide +kernel
theorem dX12_series_209 : decode cX12_series 209 = .ok (.aload_n 0, 1) := by decide +kernel
theorem dX12_series_210 : decode cX12_series 210 = .ok (.getfield 386, 3) := by decide +kernel
theorem dX12_series_213 : decode cX12_series 213 = .ok (.lmul, 1) := by decide +kernel
theorem dX12_series_214 : decode cX12_series 214 = .ok (.aload_n 0, 1) := by decide +kernel
theorem dX12_series_215 : decode cX12_series 215 = .ok (.getfield 383, 3) := by decide +kernel
theorem dX12_series_218 : decode cX12_series 218 = .ok (.lsub, 1) := by decide +kernel
theorem dX12_series_219 : decode cX12_series 219 = .ok (.lreturn, 1) := by decide +kernel
theorem dX12_series_220 : decode cX12_series 220 = .ok (.aload_n 0, 1) := by decide +kernel
theorem dX12_series_221 : decode cX12_series 221 = .ok (.getfield 386, 3) := by decide +kernel
theorem dX12_series_224 : decode cX12_series 224 = .ok (.lreturn, 1) := by decide +kernel
theorem dX12_ran_0 : decode cX12_ran 0 = .ok (.aload_n 0, 1) := by decide +kernel
theorem dX12_ran_1 : decode cX12_ran 1 = .ok (.iconst 0, 1) := by decide +kernel
theorem dX12_ran_2 : decode cX12_ran 2 = .ok (.putfield 406, 3) := by decide +kernel
theorem dX12_ran_5 : decode cX12_ran 5 = .ok (.aload_n 0, 1) := by decide +kernel
theorem dX12_ran_6 : decode cX12_ran 6 = .ok (.iconst 0, 1) := by decide +kernel
theorem dX12_ran_7 : decode cX12_ran 7 = .ok (.putfield 409, 3) := by decide +kernel
theorem dX12_ran_10 : decode cX12_ran 10 = .ok (.iconst 0, 1) := by decide +kernel
theorem dX12_ran_11 : decode cX12_ran 11 = .ok (.istore 4, 2) := by decide +kernel
theorem dX12_ran_13 : decode cX12_ran 13 = .ok (.iload 4, 2) := by decide +kernel
theorem dX12_ran_15 : decode cX12_ran 15 = .ok (.aload_n 0, 1) := by decide +kernel
theorem dX12_ran_16 : decode cX12_ran 16 = .ok (.getfield 139, 3) := by decide +kernel
theorem dX12_ran_19 : decode cX12_ran 19 = .ok (.if_icmp .ge 70, 3) := by decide +kernel
theorem dX12_ran_22 : decode cX12_ran 22 = .ok (.aload_n 0, 1) := by decide +kernel
theorem dX12_ran_23 : decode cX12_ran 23 = .ok (.getfield 36, 3) := by decide +kernel
theorem dX12_ran_26 : decode cX12_ran 26 = .ok (.iload 4, 2) := by decide +kernel
theorem dX12_ran_28 : decode cX12_ran 28 = .ok (.iaload, 1) := by decide +kernel
theorem dX12_ran_29 : decode cX12_ran 29 = .ok (.iload_n 1, 1) := by decide +kernel
theorem dX12_ran_30 : decode cX12_ran 30 = .ok (.if_icmp .ne 53, 3) := by decide +kernel
theorem dX12_ran_33 : decode cX12_ran 33 = .ok (.aload_n 0, 1) := by decide +kernel
theorem dX12_ran_34 : decode cX12_ran 34 = .ok (.getfield 39, 3) := by decide +kernel
theorem dX12_ran_37 : decode cX12_ran 37 = .ok (.iload 4, 2) := by decide +kernel
theorem dX12_ran_39 : decode cX12_ran 39 = .ok (.iaload, 1) := by decide +kernel
theorem dX12_ran_40 : decode cX12_ran 40 = .ok (.iload_n 2, 1) := by decide +kernel
theorem dX12_ran_41 : decode cX12_ran 41 = .ok (.if_icmp .lt 42, 3) := by decide +kernel
theorem dX12_ran_44 : decode cX12_ran 44 = .ok (.aload_n 0, 1) := by decide +kernel
theorem dX12_ran_45 : decode cX12_ran 45 = .ok (.getfield 39, 3) := by decide +kernel
theorem dX12_ran_48 : decode cX12_ran 48 = .ok (.iload 4, 2) := by decide +kernel
theorem dX12_ran_50 : decode cX12_ran 50 = .ok (.iaload, 1) := by decide +kernel
theorem dX12_ran_51 : decode cX12_ran 51 = .ok (.iload_n 3, 1) := by decide +kernel
theorem dX12_ran_52 : decode cX12_ran 52 = .ok (.if_icmp .lt 6, 3) := by decide +kernel
theorem dX12_ran_55 : decode cX12_ran 55 = .ok (.goto 28, 3) := by decide +kernel
theorem dX12_ran_58 : decode cX12_ran 58 = .ok (.aload_n 0, 1) := by decide +kernel
theorem dX12_ran_59 : decode cX12_ran 59 = .ok (.dup, 1) := by decide +kernel
theorem dX12_ran_60 : decode cX12_ran 60 = .ok (.getfield 406, 3) := by decide +kernel
theorem dX12_ran_63 : decode cX12_ran 63 = .ok (.iconst 1, 1) := by decide +kernel
theorem dX12_ran_64 : decode cX12_ran 64 = .ok (.iadd, 1) := by decide +kernel
theorem dX12_ran_65 : decode cX12_ran 65 = .ok (.putfield 406, 3) := by decide +kernel
theorem dX12_ran_68 : decode cX12_ran 68 = .ok (.aload_n 0, 1) := by decide +kernel
theorem dX12_ran_69 : decode cX12_ran 69 = .ok (.dup, 1) := by decide +kernel
theorem dX12_ran_70 : decode cX12_ran 70 = .ok (.getfield 409, 3) := by decide +kernel
theorem dX12_ran_73 : decode cX12_ran 73 = .ok (.aload_n 0, 1) := by decide +kernel
theorem dX12_ran_74 : decode cX12_ran 74 = .ok (.iload 4, 2) := by decide +kernel
theorem dX12_ran_76 : decode cX12_ran 76 = .ok (.invokevirtual 183, 3) := by decide +kernel
theorem dX12_ran_79 : decode cX12_ran 79 = .ok (.iadd, 1) := by decide +kernel
theorem dX12_ran_80 : decode cX12_ran 80 = .ok (.putfield 409, 3) := by decide +kernel
theorem dX12_ran_83 : decode cX12_ran 83 = .ok (.iinc 4 1, 3) := by decide +kernel
theorem dX12_ran_86 : decode cX12_ran 86 = .ok (.goto (-73), 3) := by decide +kernel
theorem dX12_ran_89 : decode cX12_ran 89 = .ok (.return_, 1) := by decide +kernel
theorem dX12_best_0 : decode cX12_best 0 = .ok (.iload_n 1, 1) := by decide +kernel
theorem dX12_best_1 : decode cX12_best 1 = .ok (.i2l, 1) := by decide +kernel
theorem dX12_best_2 : decode cX12_best 2 = .ok (.lconst 0, 1) := by decide +kernel
theorem dX12_best_3 : decode cX12_best 3 = .ok (.ldc2_w 412, 3) := by decide +kernel
theorem dX12_best_6 : decode cX12_best 6 = .ok (.invokestatic 142, 3) := by decide +kernel
theorem dX12_best_9 : decode cX12_best 9 = .ok (.ifCond .ne 6, 3) := by decide +kernel
theorem dX12_best_12 : decode cX12_best 12 = .ok (.bipush (-2), 2) := by decide +kernel
theorem dX12_best_14 : decode cX12_best 14 = .ok (.ireturn, 1) := by decide +kernel
theorem dX12_best_15 : decode cX12_best 15 = .ok (.iconst (-1), 1) := by decide +kernel
theorem dX12_best_16 : decode cX12_best 16 = .ok (.istore_n 2, 1) := by decide +kernel
theorem dX12_best_17 : decode cX12_best 17 = .ok (.iconst 0, 1) := by decide +kernel
theorem dX12_best_18 : decode cX12_best 18 = .ok (.istore_n 3, 1) := by decide +kernel
theorem dX12_best_19 : decode cX12_best 19 = .ok (.iconst 1, 1) := by decide +kernel
theorem dX12_best_20 : decode cX12_best 20 = .ok (.istore 4, 2) := by decide +kernel
theorem dX12_best_22 : decode cX12_best 22 = .ok (.iconst 0, 1) := by decide +kernel
theorem dX12_best_23 : decode cX12_best 23 = .ok (.istore 5, 2) := by decide +kernel
theorem dX12_best_25 : decode cX12_best 25 = .ok (.iload 5, 2) := by decide +kernel
theorem dX12_best_27 : decode cX12_best 27 = .ok (.bipush 8, 2) := by decide +kernel
theorem dX12_best_29 : decode cX12_best 29 = .ok (.if_icmp .ge 62, 3) := by decide +kernel
theorem dX12_best_32 : decode cX12_best 32 = .ok (.aload_n 0, 1) := by decide +kernel
theorem dX12_best_33 : decode cX12_best 33 = .ok (.iload 5, 2) := by decide +kernel
theorem dX12_best_35 : decode cX12_best 35 = .ok (.iconst 0, 1) := by decide +kernel
theorem dX12_best_36 : decode cX12_best 36 = .ok (.iload_n 1, 1) := by decide +kernel
theorem dX12_best_37 : decode cX12_best 37 = .ok (.invokevirtual 414, 3) := by decide +kernel
theorem dX12_best_40 : decode cX12_best 40 = .ok (.aload_n 0, 1) := by decide +kernel
theorem dX12_best_41 : decode cX12_best 41 = .ok (.getfield 406, 3) := by decide +kernel
theorem dX12_best_44 : decode cX12_best 44 = .ok (.ifCond .eq 41, 3) := by decide +kernel
theorem dX12_best_47 : decode cX12_best 47 = .ok (.iload_n 2, 1) := by decide +kernel
theorem dX12_best_48 : decode cX12_best 48 = .ok (.iconst (-1), 1) := by decide +kernel
theorem dX12_best_49 : decode cX12_best 49 = .ok (.if_icmp .eq 22, 3) := by decide +kernel
theorem dX12_best_52 : decode cX12_best 52 = .ok (.aload_n 0, 1) := by decide +kernel
theorem dX12_best_53 : decode cX12_best 53 = .ok (.getfield 409, 3) := by decide +kernel
theorem dX12_best_56 : decode cX12_best 56 = .ok (.iload 4, 2) := by decide +kernel
theorem dX12_best_58 : decode cX12_best 58 = .ok (.imul, 1) := by decide +kernel
theorem dX12_best_59 : decode cX12_best 59 = .ok (.iload_n 3, 1) := by decide +kernel
theorem dX12_best_60 : decode cX12_best 60 = .ok (.aload_n 0, 1) := by decide +kernel
theorem dX12_best_61 : decode cX12_best 61 = .ok (.getfield 406, 3) := by decide +kernel
theorem dX12_best_64 : decode cX12_best 64 = .ok (.imul, 1) := by decide +kernel
theorem dX12_best_65 : decode cX12_best 65 = .ok (.if_icmp .gt 6, 3) := by decide +kernel
theorem dX12_best_68 : decode cX12_best 68 = .ok (.goto 17, 3) := by decide +kernel
theorem dX12_best_71 : decode cX12_best 71 = .ok (.iload 5, 2) := by decide +kernel
theorem dX12_best_73 : decode cX12_best 73 = .ok (.istore_n 2, 1) := by decide +kernel
theorem dX12_best_74 : decode cX12_best 74 = .ok (.aload_n 0, 1) := by decide +kernel
theorem dX12_best_75 : decode cX12_best 75 = .ok (.getfield 409, 3) := by decide +kernel
theorem dX12_best_78 : decode cX12_best 78 = .ok (.istore_n 3, 1) := by decide +kernel
theorem dX12_best_79 : decode cX12_best 79 = .ok (.aload_n 0, 1) := by decide +kernel
theorem dX12_best_80 : decode cX12_best 80 = .ok (.getfield 406, 3) := by decide +kernel
theorem dX12_best_83 : decode cX12_best 83 = .ok (.istore 4, 2) := by decide +kernel
theorem dX12_best_85 : decode cX12_best 85 = .ok (.iinc 5 1, 3) := by decide +kernel
theorem dX12_best_88 : decode cX12_best 88 = .ok (.goto (-63), 3) := by decide +kernel
theorem dX12_best_91 : decode cX12_best 91 = .ok (.iload_n 2, 1) := by decide +kernel
theorem dX12_best_92 : decode cX12_best 92 = .ok (.ireturn, 1) := by decide +kernel
theorem dX12_falls_0 : decode cX12_falls 0 = .ok (.iload_n 1, 1) := by decide +kernel
theorem dX12_falls_1 : decode cX12_falls 1 = .ok (.invokestatic 393, 3) := by decide +kernel
theorem dX12_falls_4 : decode cX12_falls 4 = .ok (.ifCond .eq 25, 3) := by decide +kernel
theorem dX12_falls_7 : decode cX12_falls 7 = .ok (.iload_n 2, 1) := by decide +kernel
theorem dX12_falls_8 : decode cX12_falls 8 = .ok (.i2l, 1) := by decide +kernel
theorem dX12_falls_9 : decode cX12_falls 9 = .ok (.lconst 0, 1) := by decide +kernel
theorem dX12_falls_10 : decode cX12_falls 10 = .ok (.ldc2_w 412, 3) := by decide +kernel
theorem dX12_falls_13 : decode cX12_falls 13 = .ok (.invokestatic 142, 3) := by decide +kernel
theorem dX12_falls_16 : decode cX12_falls 16 = .ok (.ifCond .eq 13, 3) := by decide +kernel
theorem dX12_falls_19 : decode cX12_falls 19 = .ok (.iload_n 3, 1) := by decide +kernel
theorem dX12_falls_20 : decode cX12_falls 20 = .ok (.i2l, 1) := by decide +kernel
theorem dX12_falls_21 : decode cX12_falls 21 = .ok (.lconst 0, 1) := by decide +kernel
theorem dX12_falls_22 : decode cX12_falls 22 = .ok (.lconst 1, 1) := by decide +kernel
theorem dX12_falls_23 : decode cX12_falls 23 = .ok (.invokestatic 142, 3) := by decide +kernel
theorem dX12_falls_26 : decode cX12_falls 26 = .ok (.ifCond .ne 7, 3) := by decide +kernel
theorem dX12_falls_29 : decode cX12_falls 29 = .ok (.ldc2_w 205, 3) := by decide +kernel
theorem dX12_falls_32 : decode cX12_falls 32 = .ok (.lreturn, 1) := by decide +kernel
theorem dX12_falls_33 : decode cX12_falls 33 = .ok (.aload_n 0, 1) := by decide +kernel
theorem dX12_falls_34 : decode cX12_falls 34 = .ok (.invokevirtual 396, 3) := by decide +kernel
theorem dX12_falls_37 : decode cX12_falls 37 = .ok (.aload_n 0, 1) := by decide +kernel
theorem dX12_falls_38 : decode cX12_falls 38 = .ok (.iload_n 1, 1) := by decide +kernel
theorem dX12_falls_39 : decode cX12_falls 39 = .ok (.iconst 0, 1) := by decide +kernel
theorem dX12_falls_40 : decode cX12_falls 40 = .ok (.iload_n 2, 1) := by decide +kernel
theorem dX12_falls_41 : decode cX12_falls 41 = .ok (.invokevirtual 414, 3) := by decide +kernel
theorem dX12_falls_44 : decode cX12_falls 44 = .ok (.aload_n 0, 1) := by decide +kernel
theorem dX12_falls_45 : decode cX12_falls 45 = .ok (.getfield 406, 3) := by decide +kernel
theorem dX12_falls_48 : decode cX12_falls 48 = .ok (.istore 4, 2) := by decide +kernel
theorem dX12_falls_50 : decode cX12_falls 50 = .ok (.aload_n 0, 1) := by decide +kernel
theorem dX12_falls_51 : decode cX12_falls 51 = .ok (.getfield 409, 3) := by decide +kernel
theorem dX12_falls_54 : decode cX12_falls 54 = .ok (.istore 5, 2) := by decide +kernel
theorem dX12_falls_56 : decode cX12_falls 56 = .ok (.aload_n 0, 1) := by decide +kernel
theorem dX12_falls_57 : decode cX12_falls 57 = .ok (.iload_n 1, 1) := by decide +kernel
theorem dX12_falls_58 : decode cX12_falls 58 = .ok (.iload_n 2, 1) := by decide +kernel
theorem dX12_falls_59 : decode cX12_falls 59 = .ok (.bipush 100, 2) := by decide +kernel
theorem dX12_falls_61 : decode cX12_falls 61 = .ok (.invokevirtual 414, 3) := by decide +kernel
theorem dX12_falls_64 : decode cX12_falls 64 = .ok (.iload 4, 2) := by decide +kernel
theorem dX12_falls_66 : decode cX12_falls 66 = .ok (.ifCond .le 35, 3) := by decide +kernel
theorem dX12_falls_69 : decode cX12_falls 69 = .ok (.aload_n 0, 1) := by decide +kernel
theorem dX12_falls_70 : decode cX12_falls 70 = .ok (.getfield 406, 3) := by decide +kernel
theorem dX12_falls_73 : decode cX12_falls 73 = .ok (.ifCond .le 28, 3) := by decide +kernel
theorem dX12_falls_76 : decode cX12_falls 76 = .ok (.aload_n 0, 1) := by decide +kernel
theorem dX12_falls_77 : decode cX12_falls 77 = .ok (.iload 5, 2) := by decide +kernel
theorem dX12_falls_79 : decode cX12_falls 79 = .ok (.i2l, 1) := by decide +kernel
theorem dX12_falls_80 : decode cX12_falls 80 = .ok (.iload 4, 2) := by decide +kernel
theorem dX12_falls_82 : decode cX12_falls 82 = .ok (.i2l, 1) := by decide +kernel
theorem dX12_falls_83 : decode cX12_falls 83 = .ok (.invokevirtual 402, 3) := by decide +kernel
theorem dX12_falls_86 : decode cX12_falls 86 = .ok (.aload_n 0, 1) := by decide +kernel
theorem dX12_falls_87 : decode cX12_falls 87 = .ok (.aload_n 0, 1) := by decide +kernel
theorem dX12_falls_88 : decode cX12_falls 88 = .ok (.getfield 409, 3) := by decide +kernel
theorem dX12_falls_91 : decode cX12_falls 91 = .ok (.ineg, 1) := by decide +kernel
theorem dX12_falls_92 : decode cX12_falls 92 = .ok (.i2l, 1) := by decide +kernel
theorem dX12_falls_93 : decode cX12_falls 93 = .ok (.aload_n 0, 1) := by decide +kernel
theorem dX12_falls_94 : decode cX12_falls 94 = .ok (.getfield 406, 3) := by decide +kernel
theorem dX12_falls_97 : decode cX12_falls 97 = .ok (.i2l, 1) := by decide +kernel
theorem dX12_falls_98 : decode cX12_falls 98 = .ok (.invokevirtual 402, 3) := by decide +kernel
theorem dX12_falls_101 : decode cX12_falls 101 = .ok (.iload_n 3, 1) := by decide +kernel
theorem dX12_falls_102 : decode cX12_falls 102 = .ok (.ifCond .ne 10, 3) := by decide +kernel
theorem dX12_falls_105 : decode cX12_falls 105 = .ok (.aload_n 0, 1) := by decide +kernel
theorem dX12_falls_106 : decode cX12_falls 106 = .ok (.getfield 383, 3) := by decide +kernel
theorem dX12_falls_109 : decode cX12_falls 109 = .ok (.goto 7, 3) := by decide +kernel
theorem dX12_falls_112 : decode cX12_falls 112 = .ok (.aload_n 0, 1) := by decide +kernel
theorem dX12_falls_113 : decode cX12_falls 113 = .ok (.getfield 386, 3) := by decide +kernel
theorem dX12_falls_116 : decode cX12_falls 116 = .ok (.lreturn, 1) := by decide +kernel
theorem dX12_mixed_0 : decode cX12_mixed 0 = .ok (.aload_n 0, 1) := by decide +kernel
theorem dX12_mixed_1 : decode cX12_mixed 1 = .ok (.iload_n 1, 1) := by decide +kernel
theorem dX12_mixed_2 : decode cX12_mixed 2 = .ok (.invokevirtual 157, 3) := by decide +kernel
theorem dX12_mixed_5 : decode cX12_mixed 5 = .ok (.ifCond .eq 27, 3) := by decide +kernel
theorem dX12_mixed_8 : decode cX12_mixed 8 = .ok (.iload_n 2, 1) := by decide +kernel
theorem dX12_mixed_9 : decode cX12_mixed 9 = .ok (.i2l, 1) := by decide +kernel
theorem dX12_mixed_10 : decode cX12_mixed 10 = .ok (.lconst 0, 1) := by decide +kernel
theorem dX12_mixed_11 : decode cX12_mixed 11 = .ok (.ldc2_w 148, 3) := by decide +kernel
theorem dX12_mixed_14 : decode cX12_mixed 14 = .ok (.invokestatic 142, 3) := by decide +kernel
theorem dX12_mixed_17 : decode cX12_mixed 17 = .ok (.ifCond .eq 15, 3) := by decide +kernel
theorem dX12_mixed_20 : decode cX12_mixed 20 = .ok (.iload_n 3, 1) := by decide +kernel
theorem dX12_mixed_21 : decode cX12_mixed 21 = .ok (.i2l, 1) := by decide +kernel
theorem dX12_mixed_22 : decode cX12_mixed 22 = .ok (.lconst 1, 1) := by decide +kernel
theorem dX12_mixed_23 : decode cX12_mixed 23 = .ok (.ldc2_w 227, 3) := by decide +kernel
theorem dX12_mixed_26 : decode cX12_mixed 26 = .ok (.invokestatic 142, 3) := by decide +kernel
theorem dX12_mixed_29 : decode cX12_mixed 29 = .ok (.ifCond .ne 6, 3) := by decide +kernel
theorem dX12_mixed_32 : decode cX12_mixed 32 = .ok (.bipush (-2), 2) := by decide +kernel
theorem dX12_mixed_34 : decode cX12_mixed 34 = .ok (.ireturn, 1) := by decide +kernel
theorem dX12_mixed_35 : decode cX12_mixed 35 = .ok (.aload_n 0, 1) := by decide +kernel
theorem dX12_mixed_36 : decode cX12_mixed 36 = .ok (.iload_n 1, 1) := by decide +kernel
theorem dX12_mixed_37 : decode cX12_mixed 37 = .ok (.invokevirtual 183, 3) := by decide +kernel
theorem dX12_mixed_40 : decode cX12_mixed 40 = .ok (.istore 4, 2) := by decide +kernel
theorem dX12_mixed_42 : decode cX12_mixed 42 = .ok (.iconst 0, 1) := by decide +kernel
theorem dX12_mixed_43 : decode cX12_mixed 43 = .ok (.istore 5, 2) := by decide +kernel
theorem dX12_mixed_45 : decode cX12_mixed 45 = .ok (.iload 5, 2) := by decide +kernel
theorem dX12_mixed_47 : decode cX12_mixed 47 = .ok (.aload_n 0, 1) := by decide +kernel
theorem dX12_mixed_48 : decode cX12_mixed 48 = .ok (.iload_n 1, 1) := by decide +kernel
theorem dX12_mixed_49 : decode cX12_mixed 49 = .ok (.invokevirtual 161, 3) := by decide +kernel
theorem dX12_mixed_52 : decode cX12_mixed 52 = .ok (.if_icmp .ge 28, 3) := by decide +kernel
theorem dX12_mixed_55 : decode cX12_mixed 55 = .ok (.aload_n 0, 1) := by decide +kernel
theorem dX12_mixed_56 : decode cX12_mixed 56 = .ok (.getfield 87, 3) := by decide +kernel
theorem dX12_mixed_59 : decode cX12_mixed 59 = .ok (.iload 5, 2) := by decide +kernel
theorem dX12_mixed_61 : decode cX12_mixed 61 = .ok (.aload_n 0, 1) := by decide +kernel
theorem dX12_mixed_62 : decode cX12_mixed 62 = .ok (.getfield 42, 3) := by decide +kernel
theorem dX12_mixed_65 : decode cX12_mixed 65 = .ok (.bipush 25, 2) := by decide +kernel
theorem dX12_mixed_67 : decode cX12_mixed 67 = .ok (.iload_n 1, 1) := by decide +kernel
theorem dX12_mixed_68 : decode cX12_mixed 68 = .ok (.imul, 1) := by decide +kernel
theorem dX12_mixed_69 : decode cX12_mixed 69 = .ok (.iload 5, 2) := by decide +kernel
theorem dX12_mixed_71 : decode cX12_mixed 71 = .ok (.iadd, 1) := by decide +kernel
theorem dX12_mixed_72 : decode cX12_mixed 72 = .ok (.iaload, 1) := by decide +kernel
theorem dX12_mixed_73 : decode cX12_mixed 73 = .ok (.iastore, 1) := by decide +kernel
theorem dX12_mixed_74 : decode cX12_mixed 74 = .ok (.iinc 5 1, 3) := by decide +kernel
theorem dX12_mixed_77 : decode cX12_mixed 77 = .ok (.goto (-32), 3) := by decide +kernel
theorem dX12_mixed_80 : decode cX12_mixed 80 = .ok (.iconst 0, 1) := by decide +kernel
theorem dX12_mixed_81 : decode cX12_mixed 81 = .ok (.istore 5, 2) := by decide +kernel
theorem dX12_mixed_83 : decode cX12_mixed 83 = .ok (.iconst 0, 1) := by decide +kernel
theorem dX12_mixed_84 : decode cX12_mixed 84 = .ok (.istore 6, 2) := by decide +kernel
theorem dX12_mixed_86 : decode cX12_mixed 86 = .ok (.iload 6, 2) := by decide +kernel
theorem dX12_mixed_88 : decode cX12_mixed 88 = .ok (.iload_n 3, 1) := by decide +kernel
theorem dX12_mixed_89 : decode cX12_mixed 89 = .ok (.if_icmp .ge 76, 3) := by decide +kernel
theorem dX12_mixed_92 : decode cX12_mixed 92 = .ok (.aload_n 0, 1) := by decide +kernel
theorem dX12_mixed_93 : decode cX12_mixed 93 = .ok (.iload_n 1, 1) := by decide +kernel
theorem dX12_mixed_94 : decode cX12_mixed 94 = .ok (.iload_n 2, 1) := by decide +kernel
theorem dX12_mixed_95 : decode cX12_mixed 95 = .ok (.iload 6, 2) := by decide +kernel
theorem dX12_mixed_97 : decode cX12_mixed 97 = .ok (.iadd, 1) := by decide +kernel
theorem dX12_mixed_98 : decode cX12_mixed 98 = .ok (.invokevirtual 179, 3) := by decide +kernel
theorem dX12_mixed_101 : decode cX12_mixed 101 = .ok (.iload 5, 2) := by decide +kernel
theorem dX12_mixed_103 : decode cX12_mixed 103 = .ok (.aload_n 0, 1) := by decide +kernel
theorem dX12_mixed_104 : decode cX12_mixed 104 = .ok (.iload_n 1, 1) := by decide +kernel
theorem dX12_mixed_105 : decode cX12_mixed 105 = .ok (.invokevirtual 183, 3) := by decide +kernel
theorem dX12_mixed_108 : decode cX12_mixed 108 = .ok (.iload 4, 2) := by decide +kernel
theorem dX12_mixed_110 : decode cX12_mixed 110 = .ok (.if_icmp .lt 7, 3) := by decide +kernel
theorem dX12_mixed_113 : decode cX12_mixed 113 = .ok (.iconst 1, 1) := by decide +kernel
theorem dX12_mixed_114 : decode cX12_mixed 114 = .ok (.goto 4, 3) := by decide +kernel
theorem dX12_mixed_117 : decode cX12_mixed 117 = .ok (.iconst 0, 1) := by decide +kernel
theorem dX12_mixed_118 : decode cX12_mixed 118 = .ok (.iadd, 1) := by decide +kernel
theorem dX12_mixed_119 : decode cX12_mixed 119 = .ok (.istore 5, 2) := by decide +kernel
theorem dX12_mixed_121 : decode cX12_mixed 121 = .ok (.iconst 0, 1) := by decide +kernel
theorem dX12_mixed_122 : decode cX12_mixed 122 = .ok (.istore 7, 2) := by decide +kernel
theorem dX12_mixed_124 : decode cX12_mixed 124 = .ok (.iload 7, 2) := by decide +kernel
theorem dX12_mixed_126 : decode cX12_mixed 126 = .ok (.aload_n 0, 1) := by decide +kernel
theorem dX12_mixed_127 : decode cX12_mixed 127 = .ok (.iload_n 1, 1) := by decide +kernel
theorem dX12_mixed_128 : decode cX12_mixed 128 = .ok (.invokevirtual 161, 3) := by decide +kernel
theorem dX12_mixed_131 : decode cX12_mixed 131 = .ok (.if_icmp .ge 28, 3) := by decide +kernel
theorem dX12_mixed_134 : decode cX12_mixed 134 = .ok (.aload_n 0, 1) := by decide +kernel
theorem dX12_mixed_135 : decode cX12_mixed 135 = .ok (.getfield 42, 3) := by decide +kernel
theorem dX12_mixed_138 : decode cX12_mixed 138 = .ok (.bipush 25, 2) := by decide +kernel
theorem dX12_mixed_140 : decode cX12_mixed 140 = .ok (.iload_n 1, 1) := by decide +kernel
theorem dX12_mixed_141 : decode cX12_mixed 141 = .ok (.imul, 1) := by decide +kernel
theorem dX12_mixed_142 : decode cX12_mixed 142 = .ok (.iload 7, 2) := by decide +kernel
theorem dX12_mixed_144 : decode cX12_mixed 144 = .ok (.iadd, 1) := by decide +kernel
theorem dX12_mixed_145 : decode cX12_mixed 145 = .ok (.aload_n 0, 1) := by decide +kernel
theorem dX12_mixed_146 : decode cX12_mixed 146 = .ok (.getfield 87, 3) := by decide +kernel
theorem dX12_mixed_149 : decode cX12_mixed 149 = .ok (.iload 7, 2) := by decide +kernel
theorem dX12_mixed_151 : decode cX12_mixed 151 = .ok (.iaload, 1) := by decide +kernel
theorem dX12_mixed_152 : decode cX12_mixed 152 = .ok (.iastore, 1) := by decide +kernel
theorem dX12_mixed_153 : decode cX12_mixed 153 = .ok (.iinc 7 1, 3) := by decide +kernel
theorem dX12_mixed_156 : decode cX12_mixed 156 = .ok (.goto (-32), 3) := by decide +kernel
theorem dX12_mixed_159 : decode cX12_mixed 159 = .ok (.iinc 6 1, 3) := by decide +kernel
theorem dX12_mixed_162 : decode cX12_mixed 162 = .ok (.goto (-76), 3) := by decide +kernel
theorem dX12_mixed_165 : decode cX12_mixed 165 = .ok (.iload 5, 2) := by decide +kernel
theorem dX12_mixed_167 : decode cX12_mixed 167 = .ok (.ireturn, 1) := by decide +kernel
theorem dX12_image_0 : decode cX12_image 0 = .ok (.aload_n 0, 1) := by decide +kernel
theorem dX12_image_1 : decode cX12_image 1 = .ok (.iconst 1, 1) := by decide +kernel
theorem dX12_image_2 : decode cX12_image 2 = .ok (.putfield 418, 3) := by decide +kernel
theorem dX12_image_5 : decode cX12_image 5 = .ok (.aload_n 0, 1) := by decide +kernel
theorem dX12_image_6 : decode cX12_image 6 = .ok (.aload_n 0, 1) := by decide +kernel
theorem dX12_image_7 : decode cX12_image 7 = .ok (.getfield 139, 3) := by decide +kernel
theorem dX12_image_10 : decode cX12_image 10 = .ok (.putfield 421, 3) := by decide +kernel
theorem dX12_image_13 : decode cX12_image 13 = .ok (.aload_n 0, 1) := by decide +kernel
theorem dX12_image_14 : decode cX12_image 14 = .ok (.aload_n 0, 1) := by decide +kernel
theorem dX12_image_15 : decode cX12_image 15 = .ok (.getfield 213, 3) := by decide +kernel
theorem dX12_image_18 : decode cX12_image 18 = .ok (.putfield 424, 3) := by decide +kernel
theorem dX12_image_21 : decode cX12_image 21 = .ok (.aload_n 0, 1) := by decide +kernel
theorem dX12_image_22 : decode cX12_image 22 = .ok (.aload_n 0, 1) := by decide +kernel
theorem dX12_image_23 : decode cX12_image 23 = .ok (.getfield 380, 3) := by decide +kernel
theorem dX12_image_26 : decode cX12_image 26 = .ok (.putfield 427, 3) := by decide +kernel
theorem dX12_image_29 : decode cX12_image 29 = .ok (.iconst 0, 1) := by decide +kernel
theorem dX12_image_30 : decode cX12_image 30 = .ok (.istore_n 1, 1) := by decide +kernel
theorem dX12_image_31 : decode cX12_image 31 = .ok (.iload_n 1, 1) := by decide +kernel
theorem dX12_image_32 : decode cX12_image 32 = .ok (.bipush 25, 2) := by decide +kernel
theorem dX12_image_34 : decode cX12_image 34 = .ok (.aload_n 0, 1) := by decide +kernel
theorem dX12_image_35 : decode cX12_image 35 = .ok (.getfield 139, 3) := by decide +kernel
theorem dX12_image_38 : decode cX12_image 38 = .ok (.imul, 1) := by decide +kernel
theorem dX12_image_39 : decode cX12_image 39 = .ok (.if_icmp .ge 33, 3) := by decide +kernel
theorem dX12_image_42 : decode cX12_image 42 = .ok (.aload_n 0, 1) := by decide +kernel
theorem dX12_image_43 : decode cX12_image 43 = .ok (.getfield 90, 3) := by decide +kernel
theorem dX12_image_46 : decode cX12_image 46 = .ok (.iload_n 1, 1) := by decide +kernel
theorem dX12_image_47 : decode cX12_image 47 = .ok (.aload_n 0, 1) := by decide +kernel
theorem dX12_image_48 : decode cX12_image 48 = .ok (.getfield 42, 3) := by decide +kernel
theorem dX12_image_51 : decode cX12_image 51 = .ok (.iload_n 1, 1) := by decide +kernel
theorem dX12_image_52 : decode cX12_image 52 = .ok (.iaload, 1) := by decide +kernel
theorem dX12_image_53 : decode cX12_image 53 = .ok (.iastore, 1) := by decide +kernel
theorem dX12_image_54 : decode cX12_image 54 = .ok (.aload_n 0, 1) := by decide +kernel
theorem dX12_image_55 : decode cX12_image 55 = .ok (.getfield 93, 3) := by decide +kernel
theorem dX12_image_58 : decode cX12_image 58 = .ok (.iload_n 1, 1) := by decide +kernel
theorem dX12_image_59 : decode cX12_image 59 = .ok (.aload_n 0, 1) := by decide +kernel
theorem dX12_image_60 : decode cX12_image 60 = .ok (.getfield 45, 3) := by decide +kernel
theorem dX12_image_63 : decode cX12_image 63 = .ok (.iload_n 1, 1) := by decide +kernel
theorem dX12_image_64 : decode cX12_image 64 = .ok (.iaload, 1) := by decide +kernel
theorem dX12_image_65 : decode cX12_image 65 = .ok (.iastore, 1) := by decide +kernel
theorem dX12_image_66 : decode cX12_image 66 = .ok (.iinc 1 1, 3) := by decide +kernel
theorem dX12_image_69 : decode cX12_image 69 = .ok (.goto (-38), 3) := by decide +kernel
theorem dX12_image_72 : decode cX12_image 72 = .ok (.iconst 0, 1) := by decide +kernel
theorem dX12_image_73 : decode cX12_image 73 = .ok (.istore_n 1, 1) := by decide +kernel
theorem dX12_image_74 : decode cX12_image 74 = .ok (.iload_n 1, 1) := by decide +kernel
theorem dX12_image_75 : decode cX12_image 75 = .ok (.aload_n 0, 1) := by decide +kernel
theorem dX12_image_76 : decode cX12_image 76 = .ok (.getfield 139, 3) := by decide +kernel
theorem dX12_image_79 : decode cX12_image 79 = .ok (.if_icmp .ge 33, 3) := by decide +kernel
theorem dX12_image_82 : decode cX12_image 82 = .ok (.aload_n 0, 1) := by decide +kernel
theorem dX12_image_83 : decode cX12_image 83 = .ok (.getfield 96, 3) := by decide +kernel
theorem dX12_image_86 : decode cX12_image 86 = .ok (.iload_n 1, 1) := by decide +kernel
theorem dX12_image_87 : decode cX12_image 87 = .ok (.aload_n 0, 1) := by decide +kernel
theorem dX12_image_88 : decode cX12_image 88 = .ok (.getfield 48, 3) := by decide +kernel
theorem dX12_image_91 : decode cX12_image 91 = .ok (.iload_n 1, 1) := by decide +kernel
theorem dX12_image_92 : decode cX12_image 92 = .ok (.iaload, 1) := by decide +kernel
theorem dX12_image_93 : decode cX12_image 93 = .ok (.iastore, 1) := by decide +kernel
theorem dX12_image_94 : decode cX12_image 94 = .ok (.aload_n 0, 1) := by decide +kernel
theorem dX12_image_95 : decode cX12_image 95 = .ok (.getfield 99, 3) := by decide +kernel
theorem dX12_image_98 : decode cX12_image 98 = .ok (.iload_n 1, 1) := by decide +kernel
theorem dX12_image_99 : decode cX12_image 99 = .ok (.aload_n 0, 1) := by decide +kernel
theorem dX12_image_100 : decode cX12_image 100 = .ok (.getfield 51, 3) := by decide +kernel
theorem dX12_image_103 : decode cX12_image 103 = .ok (.iload_n 1, 1) := by decide +kernel
theorem dX12_image_104 : decode cX12_image 104 = .ok (.iaload, 1) := by decide +kernel
theorem dX12_image_105 : decode cX12_image 105 = .ok (.iastore, 1) := by decide +kernel
theorem dX12_image_106 : decode cX12_image 106 = .ok (.iinc 1 1, 3) := by decide +kernel
theorem dX12_image_109 : decode cX12_image 109 = .ok (.goto (-35), 3) := by decide +kernel
theorem dX12_image_112 : decode cX12_image 112 = .ok (.iconst 0, 1) := by decide +kernel
theorem dX12_image_113 : decode cX12_image 113 = .ok (.istore_n 1, 1) := by decide +kernel
theorem dX12_image_114 : decode cX12_image 114 = .ok (.iload_n 1, 1) := by decide +kernel
theorem dX12_image_115 : decode cX12_image 115 = .ok (.aload_n 0, 1) := by decide +kernel
theorem dX12_image_116 : decode cX12_image 116 = .ok (.getfield 213, 3) := by decide +kernel
theorem dX12_image_119 : decode cX12_image 119 = .ok (.if_icmp .ge 21, 3) := by decide +kernel
theorem dX12_image_122 : decode cX12_image 122 = .ok (.aload_n 0, 1) := by decide +kernel
theorem dX12_image_123 : decode cX12_image 123 = .ok (.getfield 102, 3) := by decide +kernel
theorem dX12_image_126 : decode cX12_image 126 = .ok (.iload_n 1, 1) := by decide +kernel
theorem dX12_image_127 : decode cX12_image 127 = .ok (.aload_n 0, 1) := by decide +kernel
theorem dX12_image_128 : decode cX12_image 128 = .ok (.getfield 78, 3) := by decide +kernel
theorem dX12_image_131 : decode cX12_image 131 = .ok (.iload_n 1, 1) := by decide +kernel
theorem dX12_image_132 : decode cX12_image 132 = .ok (.iaload, 1) := by decide +kernel
theorem dX12_image_133 : decode cX12_image 133 = .ok (.iastore, 1) := by decide +kernel
theorem dX12_image_134 : decode cX12_image 134 = .ok (.iinc 1 1, 3) := by decide +kernel
theorem dX12_image_137 : decode cX12_image 137 = .ok (.goto (-23), 3) := by decide +kernel
theorem dX12_image_140 : decode cX12_image 140 = .ok (.aload_n 0, 1) := by decide +kernel
theorem dX12_image_141 : decode cX12_image 141 = .ok (.getfield 139, 3) := by decide +kernel
theorem dX12_image_144 : decode cX12_image 144 = .ok (.ireturn, 1) := by decide +kernel
theorem dX12_back_0 : decode cX12_back 0 = .ok (.aload_n 0, 1) := by decide +kernel
theorem dX12_back_1 : decode cX12_back 1 = .ok (.getfield 418, 3) := by decide +kernel
theorem dX12_back_4 : decode cX12_back 4 = .ok (.ifCond .ne 6, 3) := by decide +kernel
theorem dX12_back_7 : decode cX12_back 7 = .ok (.bipush (-3), 2) := by decide +kernel
theorem dX12_back_9 : decode cX12_back 9 = .ok (.ireturn, 1) := by decide +kernel
theorem dX12_back_10 : decode cX12_back 10 = .ok (.aload_n 0, 1) := by decide +kernel
theorem dX12_back_11 : decode cX12_back 11 = .ok (.aload_n 0, 1) := by decide +kernel
theorem dX12_back_12 : decode cX12_back 12 = .ok (.getfield 427, 3) := by decide +kernel
theorem dX12_back_15 : decode cX12_back 15 = .ok (.putfield 380, 3) := by decide +kernel
theorem dX12_back_18 : decode cX12_back 18 = .ok (.iconst 0, 1) := by decide +kernel
theorem dX12_back_19 : decode cX12_back 19 = .ok (.istore_n 1, 1) := by decide +kernel
theorem dX12_back_20 : decode cX12_back 20 = .ok (.iload_n 1, 1) := by decide +kernel
theorem dX12_back_21 : decode cX12_back 21 = .ok (.bipush 25, 2) := by decide +kernel
theorem dX12_back_23 : decode cX12_back 23 = .ok (.aload_n 0, 1) := by decide +kernel
theorem dX12_back_24 : decode cX12_back 24 = .ok (.getfield 421, 3) := by decide +kernel
theorem dX12_back_27 : decode cX12_back 27 = .ok (.imul, 1) := by decide +kernel
theorem dX12_back_28 : decode cX12_back 28 = .ok (.if_icmp .ge 33, 3) := by decide +kernel
theorem dX12_back_31 : decode cX12_back 31 = .ok (.aload_n 0, 1) := by decide +kernel
theorem dX12_back_32 : decode cX12_back 32 = .ok (.getfield 42, 3) := by decide +kernel
theorem dX12_back_35 : decode cX12_back 35 = .ok (.iload_n 1, 1) := by decide +kernel
theorem dX12_back_36 : decode cX12_back 36 = .ok (.aload_n 0, 1) := by decide +kernel
theorem dX12_back_37 : decode cX12_back 37 = .ok (.getfield 90, 3) := by decide +kernel
theorem dX12_back_40 : decode cX12_back 40 = .ok (.iload_n 1, 1) := by decide +kernel
theorem dX12_back_41 : decode cX12_back 41 = .ok (.iaload, 1) := by decide +kernel
theorem dX12_back_42 : decode cX12_back 42 = .ok (.iastore, 1) := by decide +kernel
theorem dX12_back_43 : decode cX12_back 43 = .ok (.aload_n 0, 1) := by decide +kernel
theorem dX12_back_44 : decode cX12_back 44 = .ok (.getfield 45, 3) := by decide +kernel
theorem dX12_back_47 : decode cX12_back 47 = .ok (.iload_n 1, 1) := by decide +kernel
theorem dX12_back_48 : decode cX12_back 48 = .ok (.aload_n 0, 1) := by decide +kernel
theorem dX12_back_49 : decode cX12_back 49 = .ok (.getfield 93, 3) := by decide +kernel
theorem dX12_back_52 : decode cX12_back 52 = .ok (.iload_n 1, 1) := by decide +kernel
theorem dX12_back_53 : decode cX12_back 53 = .ok (.iaload, 1) := by decide +kernel
theorem dX12_back_54 : decode cX12_back 54 = .ok (.iastore, 1) := by decide +kernel
theorem dX12_back_55 : decode cX12_back 55 = .ok (.iinc 1 1, 3) := by decide +kernel
theorem dX12_back_58 : decode cX12_back 58 = .ok (.goto (-38), 3) := by decide +kernel
theorem dX12_back_61 : decode cX12_back 61 = .ok (.iconst 0, 1) := by decide +kernel
theorem dX12_back_62 : decode cX12_back 62 = .ok (.istore_n 1, 1) := by decide +kernel
theorem dX12_back_63 : decode cX12_back 63 = .ok (.iload_n 1, 1) := by decide +kernel
theorem dX12_back_64 : decode cX12_back 64 = .ok (.aload_n 0, 1) := by decide +kernel
theorem dX12_back_65 : decode cX12_back 65 = .ok (.getfield 421, 3) := by decide +kernel
theorem dX12_back_68 : decode cX12_back 68 = .ok (.if_icmp .ge 33, 3) := by decide +kernel
theorem dX12_back_71 : decode cX12_back 71 = .ok (.aload_n 0, 1) := by decide +kernel
theorem dX12_back_72 : decode cX12_back 72 = .ok (.getfield 48, 3) := by decide +kernel
theorem dX12_back_75 : decode cX12_back 75 = .ok (.iload_n 1, 1) := by decide +kernel
theorem dX12_back_76 : decode cX12_back 76 = .ok (.aload_n 0, 1) := by decide +kernel
theorem dX12_back_77 : decode cX12_back 77 = .ok (.getfield 96, 3) := by decide +kernel
theorem dX12_back_80 : decode cX12_back 80 = .ok (.iload_n 1, 1) := by decide +kernel
theorem dX12_back_81 : decode cX12_back 81 = .ok (.iaload, 1) := by decide +kernel
theorem dX12_back_82 : decode cX12_back 82 = .ok (.iastore, 1) := by decide +kernel
theorem dX12_back_83 : decode cX12_back 83 = .ok (.aload_n 0, 1) := by decide +kernel
theorem dX12_back_84 : decode cX12_back 84 = .ok (.getfield 51, 3) := by decide +kernel
theorem dX12_back_87 : decode cX12_back 87 = .ok (.iload_n 1, 1) := by decide +kernel
theorem dX12_back_88 : decode cX12_back 88 = .ok (.aload_n 0, 1) := by decide +kernel
theorem dX12_back_89 : decode cX12_back 89 = .ok (.getfield 99, 3) := by decide +kernel
theorem dX12_back_92 : decode cX12_back 92 = .ok (.iload_n 1, 1) := by decide +kernel
theorem dX12_back_93 : decode cX12_back 93 = .ok (.iaload, 1) := by decide +kernel
theorem dX12_back_94 : decode cX12_back 94 = .ok (.iastore, 1) := by decide +kernel
theorem dX12_back_95 : decode cX12_back 95 = .ok (.iinc 1 1, 3) := by decide +kernel
theorem dX12_back_98 : decode cX12_back 98 = .ok (.goto (-35), 3) := by decide +kernel
theorem dX12_back_101 : decode cX12_back 101 = .ok (.iconst 0, 1) := by decide +kernel
theorem dX12_back_102 : decode cX12_back 102 = .ok (.istore_n 1, 1) := by decide +kernel
theorem dX12_back_103 : decode cX12_back 103 = .ok (.iload_n 1, 1) := by decide +kernel
theorem dX12_back_104 : decode cX12_back 104 = .ok (.aload_n 0, 1) := by decide +kernel
theorem dX12_back_105 : decode cX12_back 105 = .ok (.getfield 424, 3) := by decide +kernel
theorem dX12_back_108 : decode cX12_back 108 = .ok (.if_icmp .ge 21, 3) := by decide +kernel
theorem dX12_back_111 : decode cX12_back 111 = .ok (.aload_n 0, 1) := by decide +kernel
theorem dX12_back_112 : decode cX12_back 112 = .ok (.getfield 78, 3) := by decide +kernel
theorem dX12_back_115 : decode cX12_back 115 = .ok (.iload_n 1, 1) := by decide +kernel
theorem dX12_back_116 : decode cX12_back 116 = .ok (.aload_n 0, 1) := by decide +kernel
theorem dX12_back_117 : decode cX12_back 117 = .ok (.getfield 102, 3) := by decide +kernel
theorem dX12_back_120 : decode cX12_back 120 = .ok (.iload_n 1, 1) := by decide +kernel
theorem dX12_back_121 : decode cX12_back 121 = .ok (.iaload, 1) := by decide +kernel
theorem dX12_back_122 : decode cX12_back 122 = .ok (.iastore, 1) := by decide +kernel
theorem dX12_back_123 : decode cX12_back 123 = .ok (.iinc 1 1, 3) := by decide +kernel
theorem dX12_back_126 : decode cX12_back 126 = .ok (.goto (-23), 3) := by decide +kernel
theorem dX12_back_129 : decode cX12_back 129 = .ok (.aload_n 0, 1) := by decide +kernel
theorem dX12_back_130 : decode cX12_back 130 = .ok (.getfield 139, 3) := by decide +kernel
theorem dX12_back_133 : decode cX12_back 133 = .ok (.ireturn, 1) := by decide +kernel
theorem dX12_count_0 : decode cX12_count 0 = .ok (.iconst 0, 1) := by decide +kernel
theorem dX12_count_1 : decode cX12_count 1 = .ok (.istore_n 2, 1) := by decide +kernel
theorem dX12_count_2 : decode cX12_count 2 = .ok (.iload_n 1, 1) := by decide +kernel
theorem dX12_count_3 : decode cX12_count 3 = .ok (.tableswitch 106 0 7 #[45, 50, 55, 60, 65, 70, 75, 80], 45) := by decide +kernel
theorem dX12_count_48 : decode cX12_count 48 = .ok (.aload_n 0, 1) := by decide +kernel
theorem dX12_count_49 : decode cX12_count 49 = .ok (.getfield 150, 3) := by decide +kernel
theorem dX12_count_52 : decode cX12_count 52 = .ok (.ireturn, 1) := by decide +kernel
theorem dX12_count_53 : decode cX12_count 53 = .ok (.aload_n 0, 1) := by decide +kernel
theorem dX12_count_54 : decode cX12_count 54 = .ok (.getfield 139, 3) := by decide +kernel
theorem dX12_count_57 : decode cX12_count 57 = .ok (.ireturn, 1) := by decide +kernel
theorem dX12_count_58 : decode cX12_count 58 = .ok (.aload_n 0, 1) := by decide +kernel
theorem dX12_count_59 : decode cX12_count 59 = .ok (.getfield 213, 3) := by decide +kernel
theorem dX12_count_62 : decode cX12_count 62 = .ok (.ireturn, 1) := by decide +kernel
theorem dX12_count_63 : decode cX12_count 63 = .ok (.aload_n 0, 1) := by decide +kernel
theorem dX12_count_64 : decode cX12_count 64 = .ok (.getfield 231, 3) := by decide +kernel
theorem dX12_count_67 : decode cX12_count 67 = .ok (.ireturn, 1) := by decide +kernel
theorem dX12_count_68 : decode cX12_count 68 = .ok (.aload_n 0, 1) := by decide +kernel
theorem dX12_count_69 : decode cX12_count 69 = .ok (.getfield 134, 3) := by decide +kernel
theorem dX12_count_72 : decode cX12_count 72 = .ok (.ireturn, 1) := by decide +kernel
theorem dX12_count_73 : decode cX12_count 73 = .ok (.aload_n 0, 1) := by decide +kernel
theorem dX12_count_74 : decode cX12_count 74 = .ok (.getfield 239, 3) := by decide +kernel
theorem dX12_count_77 : decode cX12_count 77 = .ok (.ireturn, 1) := by decide +kernel
theorem dX12_count_78 : decode cX12_count 78 = .ok (.aload_n 0, 1) := by decide +kernel
theorem dX12_count_79 : decode cX12_count 79 = .ok (.getfield 380, 3) := by decide +kernel
theorem dX12_count_82 : decode cX12_count 82 = .ok (.ireturn, 1) := by decide +kernel
theorem dX12_count_83 : decode cX12_count 83 = .ok (.iconst 0, 1) := by decide +kernel
theorem dX12_count_84 : decode cX12_count 84 = .ok (.istore_n 3, 1) := by decide +kernel
theorem dX12_count_85 : decode cX12_count 85 = .ok (.iload_n 3, 1) := by decide +kernel
theorem dX12_count_86 : decode cX12_count 86 = .ok (.aload_n 0, 1) := by decide +kernel
theorem dX12_count_87 : decode cX12_count 87 = .ok (.getfield 139, 3) := by decide +kernel
theorem dX12_count_90 : decode cX12_count 90 = .ok (.if_icmp .ge 17, 3) := by decide +kernel
theorem dX12_count_93 : decode cX12_count 93 = .ok (.iload_n 2, 1) := by decide +kernel
theorem dX12_count_94 : decode cX12_count 94 = .ok (.aload_n 0, 1) := by decide +kernel
theorem dX12_count_95 : decode cX12_count 95 = .ok (.iload_n 3, 1) := by decide +kernel
theorem dX12_count_96 : decode cX12_count 96 = .ok (.invokevirtual 183, 3) := by decide +kernel
theorem dX12_count_99 : decode cX12_count 99 = .ok (.iadd, 1) := by decide +kernel
theorem dX12_count_100 : decode cX12_count 100 = .ok (.istore_n 2, 1) := by decide +kernel
theorem dX12_count_101 : decode cX12_count 101 = .ok (.iinc 3 1, 3) := by decide +kernel
theorem dX12_count_104 : decode cX12_count 104 = .ok (.goto (-19), 3) := by decide +kernel
theorem dX12_count_107 : decode cX12_count 107 = .ok (.iload_n 2, 1) := by decide +kernel
theorem dX12_count_108 : decode cX12_count 108 = .ok (.ireturn, 1) := by decide +kernel
theorem dX12_count_109 : decode cX12_count 109 = .ok (.bipush (-2), 2) := by decide +kernel
theorem dX12_count_111 : decode cX12_count 111 = .ok (.ireturn, 1) := by decide +kernel
theorem dX12_isSheet_0 : decode cX12_isSheet 0 = .ok (.iload_n 0, 1) := by decide +kernel
theorem dX12_isSheet_1 : decode cX12_isSheet 1 = .ok (.i2l, 1) := by decide +kernel
theorem dX12_isSheet_2 : decode cX12_isSheet 2 = .ok (.lconst 0, 1) := by decide +kernel
theorem dX12_isSheet_3 : decode cX12_isSheet 3 = .ok (.ldc2_w 430, 3) := by decide +kernel
theorem dX12_isSheet_6 : decode cX12_isSheet 6 = .ok (.invokestatic 142, 3) := by decide +kernel
theorem dX12_isSheet_9 : decode cX12_isSheet 9 = .ok (.ireturn, 1) := by decide +kernel
theorem dX12_sheet_0 : decode cX12_sheet 0 = .ok (.iload_n 1, 1) := by decide +kernel
theorem dX12_sheet_1 : decode cX12_sheet 1 = .ok (.invokestatic 165, 3) := by decide +kernel
theorem dX12_sheet_4 : decode cX12_sheet 4 = .ok (.ifCond .eq 27, 3) := by decide +kernel
theorem dX12_sheet_7 : decode cX12_sheet 7 = .ok (.iload_n 2, 1) := by decide +kernel
theorem dX12_sheet_8 : decode cX12_sheet 8 = .ok (.i2l, 1) := by decide +kernel
theorem dX12_sheet_9 : decode cX12_sheet 9 = .ok (.ldc2_w 211, 3) := by decide +kernel
theorem dX12_sheet_12 : decode cX12_sheet 12 = .ok (.ldc2_w 432, 3) := by decide +kernel
theorem dX12_sheet_15 : decode cX12_sheet 15 = .ok (.invokestatic 142, 3) := by decide +kernel
theorem dX12_sheet_18 : decode cX12_sheet 18 = .ok (.ifCond .eq 13, 3) := by decide +kernel
theorem dX12_sheet_21 : decode cX12_sheet 21 = .ok (.iload_n 2, 1) := by decide +kernel
theorem dX12_sheet_22 : decode cX12_sheet 22 = .ok (.ifCond .lt 12, 3) := by decide +kernel
theorem dX12_sheet_25 : decode cX12_sheet 25 = .ok (.iload_n 3, 1) := by decide +kernel
theorem dX12_sheet_26 : decode cX12_sheet 26 = .ok (.bipush 40, 2) := by decide +kernel
theorem dX12_sheet_28 : decode cX12_sheet 28 = .ok (.if_icmp .le 6, 3) := by decide +kernel
theorem dX12_sheet_31 : decode cX12_sheet 31 = .ok (.bipush (-2), 2) := by decide +kernel
theorem dX12_sheet_33 : decode cX12_sheet 33 = .ok (.ireturn, 1) := by decide +kernel
theorem dX12_sheet_34 : decode cX12_sheet 34 = .ok (.iload_n 2, 1) := by decide +kernel
theorem dX12_sheet_35 : decode cX12_sheet 35 = .ok (.ifCond .lt 10, 3) := by decide +kernel
theorem dX12_sheet_38 : decode cX12_sheet 38 = .ok (.iload_n 3, 1) := by decide +kernel
theorem dX12_sheet_39 : decode cX12_sheet 39 = .ok (.ifCond .ge 6, 3) := by decide +kernel
theorem dX12_sheet_42 : decode cX12_sheet 42 = .ok (.bipush (-14), 2) := by decide +kernel
theorem dX12_sheet_44 : decode cX12_sheet 44 = .ok (.ireturn, 1) := by decide +kernel
theorem dX12_sheet_45 : decode cX12_sheet 45 = .ok (.aload_n 0, 1) := by decide +kernel
theorem dX12_sheet_46 : decode cX12_sheet 46 = .ok (.getfield 105, 3) := by decide +kernel
theorem dX12_sheet_49 : decode cX12_sheet 49 = .ok (.iload_n 1, 1) := by decide +kernel
theorem dX12_sheet_50 : decode cX12_sheet 50 = .ok (.iload_n 2, 1) := by decide +kernel
theorem dX12_sheet_51 : decode cX12_sheet 51 = .ok (.ifCond .lt 7, 3) := by decide +kernel
theorem dX12_sheet_54 : decode cX12_sheet 54 = .ok (.iconst 1, 1) := by decide +kernel
theorem dX12_sheet_55 : decode cX12_sheet 55 = .ok (.goto 4, 3) := by decide +kernel
theorem dX12_sheet_58 : decode cX12_sheet 58 = .ok (.iconst 0, 1) := by decide +kernel
theorem dX12_sheet_59 : decode cX12_sheet 59 = .ok (.bastore, 1) := by decide +kernel
theorem dX12_sheet_60 : decode cX12_sheet 60 = .ok (.aload_n 0, 1) := by decide +kernel
theorem dX12_sheet_61 : decode cX12_sheet 61 = .ok (.getfield 109, 3) := by decide +kernel
theorem dX12_sheet_64 : decode cX12_sheet 64 = .ok (.iload_n 1, 1) := by decide +kernel
theorem dX12_sheet_65 : decode cX12_sheet 65 = .ok (.iload_n 2, 1) := by decide +kernel
theorem dX12_sheet_66 : decode cX12_sheet 66 = .ok (.iastore, 1) := by decide +kernel
theorem dX12_sheet_67 : decode cX12_sheet 67 = .ok (.aload_n 0, 1) := by decide +kernel
theorem dX12_sheet_68 : decode cX12_sheet 68 = .ok (.getfield 112, 3) := by decide +kernel
theorem dX12_sheet_71 : decode cX12_sheet 71 = .ok (.iload_n 1, 1) := by decide +kernel
theorem dX12_sheet_72 : decode cX12_sheet 72 = .ok (.iload_n 3, 1) := by decide +kernel
theorem dX12_sheet_73 : decode cX12_sheet 73 = .ok (.iastore, 1) := by decide +kernel
theorem dX12_sheet_74 : decode cX12_sheet 74 = .ok (.iconst 0, 1) := by decide +kernel
theorem dX12_sheet_75 : decode cX12_sheet 75 = .ok (.istore 4, 2) := by decide +kernel
theorem dX12_sheet_77 : decode cX12_sheet 77 = .ok (.iload 4, 2) := by decide +kernel
theorem dX12_sheet_79 : decode cX12_sheet 79 = .ok (.iload_n 3, 1) := by decide +kernel
theorem dX12_sheet_80 : decode cX12_sheet 80 = .ok (.if_icmp .ge 26, 3) := by decide +kernel
theorem dX12_sheet_83 : decode cX12_sheet 83 = .ok (.iload_n 2, 1) := by decide +kernel
theorem dX12_sheet_84 : decode cX12_sheet 84 = .ok (.ifCond .lt 22, 3) := by decide +kernel
theorem dX12_sheet_87 : decode cX12_sheet 87 = .ok (.aload_n 0, 1) := by decide +kernel
theorem dX12_sheet_88 : decode cX12_sheet 88 = .ok (.getfield 115, 3) := by decide +kernel
theorem dX12_sheet_91 : decode cX12_sheet 91 = .ok (.bipush 40, 2) := by decide +kernel
theorem dX12_sheet_93 : decode cX12_sheet 93 = .ok (.iload_n 1, 1) := by decide +kernel
theorem dX12_sheet_94 : decode cX12_sheet 94 = .ok (.imul, 1) := by decide +kernel
theorem dX12_sheet_95 : decode cX12_sheet 95 = .ok (.iload 4, 2) := by decide +kernel
theorem dX12_sheet_97 : decode cX12_sheet 97 = .ok (.iadd, 1) := by decide +kernel
theorem dX12_sheet_98 : decode cX12_sheet 98 = .ok (.iconst 0, 1) := by decide +kernel
theorem dX12_sheet_99 : decode cX12_sheet 99 = .ok (.iastore, 1) := by decide +kernel
theorem dX12_sheet_100 : decode cX12_sheet 100 = .ok (.iinc 4 1, 3) := by decide +kernel
theorem dX12_sheet_103 : decode cX12_sheet 103 = .ok (.goto (-26), 3) := by decide +kernel
theorem dX12_sheet_106 : decode cX12_sheet 106 = .ok (.iconst 1, 1) := by decide +kernel
theorem dX12_sheet_107 : decode cX12_sheet 107 = .ok (.ireturn, 1) := by decide +kernel
theorem dX12_cell_0 : decode cX12_cell 0 = .ok (.iload_n 1, 1) := by decide +kernel
theorem dX12_cell_1 : decode cX12_cell 1 = .ok (.invokestatic 165, 3) := by decide +kernel
theorem dX12_cell_4 : decode cX12_cell 4 = .ok (.ifCond .ne 6, 3) := by decide +kernel
theorem dX12_cell_7 : decode cX12_cell 7 = .ok (.bipush (-2), 2) := by decide +kernel
theorem dX12_cell_9 : decode cX12_cell 9 = .ok (.ireturn, 1) := by decide +kernel
theorem dX12_cell_10 : decode cX12_cell 10 = .ok (.aload_n 0, 1) := by decide +kernel
theorem dX12_cell_11 : decode cX12_cell 11 = .ok (.getfield 105, 3) := by decide +kernel
theorem dX12_cell_14 : decode cX12_cell 14 = .ok (.iload_n 1, 1) := by decide +kernel
theorem dX12_cell_15 : decode cX12_cell 15 = .ok (.baload, 1) := by decide +kernel
theorem dX12_cell_16 : decode cX12_cell 16 = .ok (.ifCond .ne 6, 3) := by decide +kernel
theorem dX12_cell_19 : decode cX12_cell 19 = .ok (.bipush (-11), 2) := by decide +kernel
theorem dX12_cell_21 : decode cX12_cell 21 = .ok (.ireturn, 1) := by decide +kernel
theorem dX12_cell_22 : decode cX12_cell 22 = .ok (.iload_n 2, 1) := by decide +kernel
theorem dX12_cell_23 : decode cX12_cell 23 = .ok (.i2l, 1) := by decide +kernel
theorem dX12_cell_24 : decode cX12_cell 24 = .ok (.lconst 0, 1) := by decide +kernel
theorem dX12_cell_25 : decode cX12_cell 25 = .ok (.aload_n 0, 1) := by decide +kernel
theorem dX12_cell_26 : decode cX12_cell 26 = .ok (.getfield 112, 3) := by decide +kernel
theorem dX12_cell_29 : decode cX12_cell 29 = .ok (.iload_n 1, 1) := by decide +kernel
theorem dX12_cell_30 : decode cX12_cell 30 = .ok (.iaload, 1) := by decide +kernel
theorem dX12_cell_31 : decode cX12_cell 31 = .ok (.iconst 1, 1) := by decide +kernel
theorem dX12_cell_32 : decode cX12_cell 32 = .ok (.isub, 1) := by decide +kernel
theorem dX12_cell_33 : decode cX12_cell 33 = .ok (.i2l, 1) := by decide +kernel
theorem dX12_cell_34 : decode cX12_cell 34 = .ok (.invokestatic 142, 3) := by decide +kernel
theorem dX12_cell_37 : decode cX12_cell 37 = .ok (.ifCond .ne 6, 3) := by decide +kernel
theorem dX12_cell_40 : decode cX12_cell 40 = .ok (.bipush (-12), 2) := by decide +kernel
theorem dX12_cell_42 : decode cX12_cell 42 = .ok (.ireturn, 1) := by decide +kernel
theorem dX12_cell_43 : decode cX12_cell 43 = .ok (.aload_n 0, 1) := by decide +kernel
theorem dX12_cell_44 : decode cX12_cell 44 = .ok (.getfield 115, 3) := by decide +kernel
theorem dX12_cell_47 : decode cX12_cell 47 = .ok (.bipush 40, 2) := by decide +kernel
theorem dX12_cell_49 : decode cX12_cell 49 = .ok (.iload_n 1, 1) := by decide +kernel
theorem dX12_cell_50 : decode cX12_cell 50 = .ok (.imul, 1) := by decide +kernel
theorem dX12_cell_51 : decode cX12_cell 51 = .ok (.iload_n 2, 1) := by decide +kernel
theorem dX12_cell_52 : decode cX12_cell 52 = .ok (.iadd, 1) := by decide +kernel
theorem dX12_cell_53 : decode cX12_cell 53 = .ok (.aload_n 0, 1) := by decide +kernel
theorem dX12_cell_54 : decode cX12_cell 54 = .ok (.getfield 109, 3) := by decide +kernel
theorem dX12_cell_57 : decode cX12_cell 57 = .ok (.iload_n 1, 1) := by decide +kernel
theorem dX12_cell_58 : decode cX12_cell 58 = .ok (.iaload, 1) := by decide +kernel
theorem dX12_cell_59 : decode cX12_cell 59 = .ok (.ifCond .ne 8, 3) := by decide +kernel
theorem dX12_cell_62 : decode cX12_cell 62 = .ok (.iload_n 3, 1) := by decide +kernel
theorem dX12_cell_63 : decode cX12_cell 63 = .ok (.i2b, 1) := by decide +kernel
theorem dX12_cell_64 : decode cX12_cell 64 = .ok (.goto 19, 3) := by decide +kernel
theorem dX12_cell_67 : decode cX12_cell 67 = .ok (.aload_n 0, 1) := by decide +kernel
theorem dX12_cell_68 : decode cX12_cell 68 = .ok (.getfield 109, 3) := by decide +kernel
theorem dX12_cell_71 : decode cX12_cell 71 = .ok (.iload_n 1, 1) := by decide +kernel
theorem dX12_cell_72 : decode cX12_cell 72 = .ok (.iaload, 1) := by decide +kernel
theorem dX12_cell_73 : decode cX12_cell 73 = .ok (.iconst 1, 1) := by decide +kernel
theorem dX12_cell_74 : decode cX12_cell 74 = .ok (.if_icmp .ne 8, 3) := by decide +kernel
theorem dX12_cell_77 : decode cX12_cell 77 = .ok (.iload_n 3, 1) := by decide +kernel
theorem dX12_cell_78 : decode cX12_cell 78 = .ok (.i2s, 1) := by decide +kernel
theorem dX12_cell_79 : decode cX12_cell 79 = .ok (.goto 4, 3) := by decide +kernel
theorem dX12_cell_82 : decode cX12_cell 82 = .ok (.iload_n 3, 1) := by decide +kernel
theorem dX12_cell_83 : decode cX12_cell 83 = .ok (.iastore, 1) := by decide +kernel
theorem dX12_cell_84 : decode cX12_cell 84 = .ok (.iconst 1, 1) := by decide +kernel
theorem dX12_cell_85 : decode cX12_cell 85 = .ok (.ireturn, 1) := by decide +kernel
theorem dX12_copy_0 : decode cX12_copy 0 = .ok (.iload_n 1, 1) := by decide +kernel
theorem dX12_copy_1 : decode cX12_copy 1 = .ok (.invokestatic 165, 3) := by decide +kernel
theorem dX12_copy_4 : decode cX12_copy 4 = .ok (.ifCond .eq 10, 3) := by decide +kernel
theorem dX12_copy_7 : decode cX12_copy 7 = .ok (.iload_n 3, 1) := by decide +kernel
theorem dX12_copy_8 : decode cX12_copy 8 = .ok (.invokestatic 165, 3) := by decide +kernel
theorem dX12_copy_11 : decode cX12_copy 11 = .ok (.ifCond .ne 6, 3) := by decide +kernel
theorem dX12_copy_14 : decode cX12_copy 14 = .ok (.bipush (-2), 2) := by decide +kernel
theorem dX12_copy_16 : decode cX12_copy 16 = .ok (.ireturn, 1) := by decide +kernel
theorem dX12_copy_17 : decode cX12_copy 17 = .ok (.aload_n 0, 1) := by decide +kernel
theorem dX12_copy_18 : decode cX12_copy 18 = .ok (.getfield 105, 3) := by decide +kernel
theorem dX12_copy_21 : decode cX12_copy 21 = .ok (.iload_n 1, 1) := by decide +kernel
theorem dX12_copy_22 : decode cX12_copy 22 = .ok (.baload, 1) := by decide +kernel
theorem dX12_copy_23 : decode cX12_copy 23 = .ok (.ifCond .eq 12, 3) := by decide +kernel
theorem dX12_copy_26 : decode cX12_copy 26 = .ok (.aload_n 0, 1) := by decide +kernel
theorem dX12_copy_27 : decode cX12_copy 27 = .ok (.getfield 105, 3) := by decide +kernel
theorem dX12_copy_30 : decode cX12_copy 30 = .ok (.iload_n 3, 1) := by decide +kernel
theorem dX12_copy_31 : decode cX12_copy 31 = .ok (.baload, 1) := by decide +kernel
theorem dX12_copy_32 : decode cX12_copy 32 = .ok (.ifCond .ne 6, 3) := by decide +kernel
theorem dX12_copy_35 : decode cX12_copy 35 = .ok (.bipush (-11), 2) := by decide +kernel
theorem dX12_copy_37 : decode cX12_copy 37 = .ok (.ireturn, 1) := by decide +kernel
theorem dX12_copy_38 : decode cX12_copy 38 = .ok (.aload_n 0, 1) := by decide +kernel
theorem dX12_copy_39 : decode cX12_copy 39 = .ok (.getfield 109, 3) := by decide +kernel
theorem dX12_copy_42 : decode cX12_copy 42 = .ok (.iload_n 1, 1) := by decide +kernel
theorem dX12_copy_43 : decode cX12_copy 43 = .ok (.iaload, 1) := by decide +kernel
theorem dX12_copy_44 : decode cX12_copy 44 = .ok (.aload_n 0, 1) := by decide +kernel
theorem dX12_copy_45 : decode cX12_copy 45 = .ok (.getfield 109, 3) := by decide +kernel
theorem dX12_copy_48 : decode cX12_copy 48 = .ok (.iload_n 3, 1) := by decide +kernel
theorem dX12_copy_49 : decode cX12_copy 49 = .ok (.iaload, 1) := by decide +kernel
theorem dX12_copy_50 : decode cX12_copy 50 = .ok (.if_icmp .eq 6, 3) := by decide +kernel
theorem dX12_copy_53 : decode cX12_copy 53 = .ok (.bipush (-13), 2) := by decide +kernel
theorem dX12_copy_55 : decode cX12_copy 55 = .ok (.ireturn, 1) := by decide +kernel
theorem dX12_copy_56 : decode cX12_copy 56 = .ok (.iload 5, 2) := by decide +kernel
theorem dX12_copy_58 : decode cX12_copy 58 = .ok (.ifCond .lt 39, 3) := by decide +kernel
theorem dX12_copy_61 : decode cX12_copy 61 = .ok (.iload_n 2, 1) := by decide +kernel
theorem dX12_copy_62 : decode cX12_copy 62 = .ok (.ifCond .lt 35, 3) := by decide +kernel
theorem dX12_copy_65 : decode cX12_copy 65 = .ok (.iload 4, 2) := by decide +kernel
theorem dX12_copy_67 : decode cX12_copy 67 = .ok (.ifCond .lt 30, 3) := by decide +kernel
theorem dX12_copy_70 : decode cX12_copy 70 = .ok (.iload_n 2, 1) := by decide +kernel
theorem dX12_copy_71 : decode cX12_copy 71 = .ok (.aload_n 0, 1) := by decide +kernel
theorem dX12_copy_72 : decode cX12_copy 72 = .ok (.getfield 112, 3) := by decide +kernel
theorem dX12_copy_75 : decode cX12_copy 75 = .ok (.iload_n 1, 1) := by decide +kernel
theorem dX12_copy_76 : decode cX12_copy 76 = .ok (.iaload, 1) := by decide +kernel
theorem dX12_copy_77 : decode cX12_copy 77 = .ok (.iload 5, 2) := by decide +kernel
theorem dX12_copy_79 : decode cX12_copy 79 = .ok (.isub, 1) := by decide +kernel
theorem dX12_copy_80 : decode cX12_copy 80 = .ok (.if_icmp .gt 17, 3) := by decide +kernel
theorem dX12_copy_83 : decode cX12_copy 83 = .ok (.iload 4, 2) := by decide +kernel
theorem dX12_copy_85 : decode cX12_copy 85 = .ok (.aload_n 0, 1) := by decide +kernel
theorem dX12_copy_86 : decode cX12_copy 86 = .ok (.getfield 112, 3) := by decide +kernel
theorem dX12_copy_89 : decode cX12_copy 89 = .ok (.iload_n 3, 1) := by decide +kernel
theorem dX12_copy_90 : decode cX12_copy 90 = .ok (.iaload, 1) := by decide +kernel
theorem dX12_copy_91 : decode cX12_copy 91 = .ok (.iload 5, 2) := by decide +kernel
theorem dX12_copy_93 : decode cX12_copy 93 = .ok (.isub, 1) := by decide +kernel
theorem dX12_copy_94 : decode cX12_copy 94 = .ok (.if_icmp .le 6, 3) := by decide +kernel
theorem dX12_copy_97 : decode cX12_copy 97 = .ok (.bipush (-12), 2) := by decide +kernel
theorem dX12_copy_99 : decode cX12_copy 99 = .ok (.ireturn, 1) := by decide +kernel
theorem dX12_copy_100 : decode cX12_copy 100 = .ok (.iload_n 1, 1) := by decide +kernel
theorem dX12_copy_101 : decode cX12_copy 101 = .ok (.iload_n 3, 1) := by decide +kernel
theorem dX12_copy_102 : decode cX12_copy 102 = .ok (.if_icmp .ne 13, 3) := by decide +kernel
theorem dX12_copy_105 : decode cX12_copy 105 = .ok (.iload_n 2, 1) := by decide +kernel
theorem dX12_copy_106 : decode cX12_copy 106 = .ok (.iload 4, 2) := by decide +kernel
theorem dX12_copy_108 : decode cX12_copy 108 = .ok (.if_icmp .ge 7, 3) := by decide +kernel
theorem dX12_copy_111 : decode cX12_copy 111 = .ok (.iconst 1, 1) := by decide +kernel
theorem dX12_copy_112 : decode cX12_copy 112 = .ok (.goto 4, 3) := by decide +kernel
theorem dX12_copy_115 : decode cX12_copy 115 = .ok (.iconst 0, 1) := by decide +kernel
theorem dX12_copy_116 : decode cX12_copy 116 = .ok (.istore 6, 2) := by decide +kernel
theorem dX12_copy_118 : decode cX12_copy 118 = .ok (.iconst 0, 1) := by decide +kernel
theorem dX12_copy_119 : decode cX12_copy 119 = .ok (.istore 7, 2) := by decide +kernel
theorem dX12_copy_121 : decode cX12_copy 121 = .ok (.iload 7, 2) := by decide +kernel
theorem dX12_copy_123 : decode cX12_copy 123 = .ok (.iload 5, 2) := by decide +kernel
theorem dX12_copy_125 : decode cX12_copy 125 = .ok (.if_icmp .ge 57, 3) := by decide +kernel
theorem dX12_copy_128 : decode cX12_copy 128 = .ok (.iload 6, 2) := by decide +kernel
theorem dX12_copy_130 : decode cX12_copy 130 = .ok (.ifCond .eq 13, 3) := by decide +kernel
theorem dX12_copy_133 : decode cX12_copy 133 = .ok (.iload 5, 2) := by decide +kernel
theorem dX12_copy_135 : decode cX12_copy 135 = .ok (.iconst 1, 1) := by decide +kernel
theorem dX12_copy_136 : decode cX12_copy 136 = .ok (.isub, 1) := by decide +kernel
theorem dX12_copy_137 : decode cX12_copy 137 = .ok (.iload 7, 2) := by decide +kernel
theorem dX12_copy_139 : decode cX12_copy 139 = .ok (.isub, 1) := by decide +kernel
theorem dX12_copy_140 : decode cX12_copy 140 = .ok (.goto 5, 3) := by decide +kernel
theorem dX12_copy_143 : decode cX12_copy 143 = .ok (.iload 7, 2) := by decide +kernel
theorem dX12_copy_145 : decode cX12_copy 145 = .ok (.istore 8, 2) := by decide +kernel
theorem dX12_copy_147 : decode cX12_copy 147 = .ok (.aload_n 0, 1) := by decide +kernel
theorem dX12_copy_148 : decode cX12_copy 148 = .ok (.getfield 115, 3) := by decide +kernel
theorem dX12_copy_151 : decode cX12_copy 151 = .ok (.bipush 40, 2) := by decide +kernel
theorem dX12_copy_153 : decode cX12_copy 153 = .ok (.iload_n 3, 1) := by decide +kernel
theorem dX12_copy_154 : decode cX12_copy 154 = .ok (.imul, 1) := by decide +kernel
theorem dX12_copy_155 : decode cX12_copy 155 = .ok (.iload 4, 2) := by decide +kernel
theorem dX12_copy_157 : decode cX12_copy 157 = .ok (.iadd, 1) := by decide +kernel
theorem dX12_copy_158 : decode cX12_copy 158 = .ok (.iload 8, 2) := by decide +kernel
theorem dX12_copy_160 : decode cX12_copy 160 = .ok (.iadd, 1) := by decide +kernel
theorem dX12_copy_161 : decode cX12_copy 161 = .ok (.aload_n 0, 1) := by decide +kernel
theorem dX12_copy_162 : decode cX12_copy 162 = .ok (.getfield 115, 3) := by decide +kernel
theorem dX12_copy_165 : decode cX12_copy 165 = .ok (.bipush 40, 2) := by decide +kernel
theorem dX12_copy_167 : decode cX12_copy 167 = .ok (.iload_n 1, 1) := by decide +kernel
theorem dX12_copy_168 : decode cX12_copy 168 = .ok (.imul, 1) := by decide +kernel
theorem dX12_copy_169 : decode cX12_copy 169 = .ok (.iload_n 2, 1) := by decide +kernel
theorem dX12_copy_170 : decode cX12_copy 170 = .ok (.iadd, 1) := by decide +kernel
theorem dX12_copy_171 : decode cX12_copy 171 = .ok (.iload 8, 2) := by decide +kernel
theorem dX12_copy_173 : decode cX12_copy 173 = .ok (.iadd, 1) := by decide +kernel
theorem dX12_copy_174 : decode cX12_copy 174 = .ok (.iaload, 1) := by decide +kernel
theorem dX12_copy_175 : decode cX12_copy 175 = .ok (.iastore, 1) := by decide +kernel
theorem dX12_copy_176 : decode cX12_copy 176 = .ok (.iinc 7 1, 3) := by decide +kernel
theorem dX12_copy_179 : decode cX12_copy 179 = .ok (.goto (-58), 3) := by decide +kernel
theorem dX12_copy_182 : decode cX12_copy 182 = .ok (.iload 5, 2) := by decide +kernel
theorem dX12_copy_184 : decode cX12_copy 184 = .ok (.ireturn, 1) := by decide +kernel
theorem dX12_runs_0 : decode cX12_runs 0 = .ok (.iload_n 1, 1) := by decide +kernel
theorem dX12_runs_1 : decode cX12_runs 1 = .ok (.invokestatic 165, 3) := by decide +kernel
theorem dX12_runs_4 : decode cX12_runs 4 = .ok (.ifCond .eq 28, 3) := by decide +kernel
theorem dX12_runs_7 : decode cX12_runs 7 = .ok (.iload_n 2, 1) := by decide +kernel
theorem dX12_runs_8 : decode cX12_runs 8 = .ok (.i2l, 1) := by decide +kernel
theorem dX12_runs_9 : decode cX12_runs 9 = .ok (.lconst 0, 1) := by decide +kernel
theorem dX12_runs_10 : decode cX12_runs 10 = .ok (.ldc2_w 432, 3) := by decide +kernel
theorem dX12_runs_13 : decode cX12_runs 13 = .ok (.invokestatic 142, 3) := by decide +kernel
theorem dX12_runs_16 : decode cX12_runs 16 = .ok (.ifCond .eq 16, 3) := by decide +kernel
theorem dX12_runs_19 : decode cX12_runs 19 = .ok (.iload 4, 2) := by decide +kernel
theorem dX12_runs_21 : decode cX12_runs 21 = .ok (.i2l, 1) := by decide +kernel
theorem dX12_runs_22 : decode cX12_runs 22 = .ok (.lconst 0, 1) := by decide +kernel
theorem dX12_runs_23 : decode cX12_runs 23 = .ok (.ldc2_w 434, 3) := by decide +kernel
theorem dX12_runs_26 : decode cX12_runs 26 = .ok (.invokestatic 142, 3) := by decide +kernel
theorem dX12_runs_29 : decode cX12_runs 29 = .ok (.ifCond .ne 6, 3) := by decide +kernel
theorem dX12_runs_32 : decode cX12_runs 32 = .ok (.bipush (-2), 2) := by decide +kernel
theorem dX12_runs_34 : decode cX12_runs 34 = .ok (.ireturn, 1) := by decide +kernel
theorem dX12_runs_35 : decode cX12_runs 35 = .ok (.aload_n 0, 1) := by decide +kernel
theorem dX12_runs_36 : decode cX12_runs 36 = .ok (.getfield 105, 3) := by decide +kernel
theorem dX12_runs_39 : decode cX12_runs 39 = .ok (.iload_n 1, 1) := by decide +kernel
theorem dX12_runs_40 : decode cX12_runs 40 = .ok (.baload, 1) := by decide +kernel
theorem dX12_runs_41 : decode cX12_runs 41 = .ok (.ifCond .eq 16, 3) := by decide +kernel
theorem dX12_runs_44 : decode cX12_runs 44 = .ok (.aload_n 0, 1) := by decide +kernel
theorem dX12_runs_45 : decode cX12_runs 45 = .ok (.getfield 109, 3) := by decide +kernel
theorem dX12_runs_48 : decode cX12_runs 48 = .ok (.iload_n 1, 1) := by decide +kernel
theorem dX12_runs_49 : decode cX12_runs 49 = .ok (.iaload, 1) := by decide +kernel
theorem dX12_runs_50 : decode cX12_runs 50 = .ok (.iload_n 2, 1) := by decide +kernel
theorem dX12_runs_51 : decode cX12_runs 51 = .ok (.if_icmp .eq 6, 3) := by decide +kernel
theorem dX12_runs_54 : decode cX12_runs 54 = .ok (.bipush (-13), 2) := by decide +kernel
theorem dX12_runs_56 : decode cX12_runs 56 = .ok (.ireturn, 1) := by decide +kernel
theorem dX12_runs_57 : decode cX12_runs 57 = .ok (.aload_n 0, 1) := by decide +kernel
theorem dX12_runs_58 : decode cX12_runs 58 = .ok (.getfield 105, 3) := by decide +kernel
theorem dX12_runs_61 : decode cX12_runs 61 = .ok (.iload_n 1, 1) := by decide +kernel
theorem dX12_runs_62 : decode cX12_runs 62 = .ok (.baload, 1) := by decide +kernel
theorem dX12_runs_63 : decode cX12_runs 63 = .ok (.ifCond .ne 6, 3) := by decide +kernel
theorem dX12_runs_66 : decode cX12_runs 66 = .ok (.bipush (-11), 2) := by decide +kernel
theorem dX12_runs_68 : decode cX12_runs 68 = .ok (.ireturn, 1) := by decide +kernel
theorem dX12_runs_69 : decode cX12_runs 69 = .ok (.iconst 0, 1) := by decide +kernel
theorem dX12_runs_70 : decode cX12_runs 70 = .ok (.istore 5, 2) := by decide +kernel
theorem dX12_runs_72 : decode cX12_runs 72 = .ok (.iconst 0, 1) := by decide +kernel
theorem dX12_runs_73 : decode cX12_runs 73 = .ok (.istore 6, 2) := by decide +kernel
theorem dX12_runs_75 : decode cX12_runs 75 = .ok (.iload 6, 2) := by decide +kernel
theorem dX12_runs_77 : decode cX12_runs 77 = .ok (.iload 4, 2) := by decide +kernel
theorem dX12_runs_79 : decode cX12_runs 79 = .ok (.if_icmp .ge 88, 3) := by decide +kernel
theorem dX12_runs_82 : decode cX12_runs 82 = .ok (.iload_n 3, 1) := by decide +kernel
theorem dX12_runs_83 : decode cX12_runs 83 = .ok (.ifCond .lt 20, 3) := by decide +kernel
theorem dX12_runs_86 : decode cX12_runs 86 = .ok (.iload_n 3, 1) := by decide +kernel
theorem dX12_runs_87 : decode cX12_runs 87 = .ok (.aload_n 0, 1) := by decide +kernel
theorem dX12_runs_88 : decode cX12_runs 88 = .ok (.getfield 112, 3) := by decide +kernel
theorem dX12_runs_91 : decode cX12_runs 91 = .ok (.iload_n 1, 1) := by decide +kernel
theorem dX12_runs_92 : decode cX12_runs 92 = .ok (.iaload, 1) := by decide +kernel
theorem dX12_runs_93 : decode cX12_runs 93 = .ok (.iconst 3, 1) := by decide +kernel
theorem dX12_runs_94 : decode cX12_runs 94 = .ok (.iload 6, 2) := by decide +kernel
theorem dX12_runs_96 : decode cX12_runs 96 = .ok (.imul, 1) := by decide +kernel
theorem dX12_runs_97 : decode cX12_runs 97 = .ok (.isub, 1) := by decide +kernel
theorem dX12_runs_98 : decode cX12_runs 98 = .ok (.iconst 3, 1) := by decide +kernel
theorem dX12_runs_99 : decode cX12_runs 99 = .ok (.isub, 1) := by decide +kernel
theorem dX12_runs_100 : decode cX12_runs 100 = .ok (.if_icmp .le 6, 3) := by decide +kernel
theorem dX12_runs_103 : decode cX12_runs 103 = .ok (.bipush (-12), 2) := by decide +kernel
theorem dX12_runs_105 : decode cX12_runs 105 = .ok (.ireturn, 1) := by decide +kernel
theorem dX12_runs_106 : decode cX12_runs 106 = .ok (.bipush 40, 2) := by decide +kernel
theorem dX12_runs_108 : decode cX12_runs 108 = .ok (.iload_n 1, 1) := by decide +kernel
theorem dX12_runs_109 : decode cX12_runs 109 = .ok (.imul, 1) := by decide +kernel
theorem dX12_runs_110 : decode cX12_runs 110 = .ok (.iload_n 3, 1) := by decide +kernel
theorem dX12_runs_111 : decode cX12_runs 111 = .ok (.iadd, 1) := by decide +kernel
theorem dX12_runs_112 : decode cX12_runs 112 = .ok (.iconst 3, 1) := by decide +kernel
theorem dX12_runs_113 : decode cX12_runs 113 = .ok (.iload 6, 2) := by decide +kernel
theorem dX12_runs_115 : decode cX12_runs 115 = .ok (.imul, 1) := by decide +kernel
theorem dX12_runs_116 : decode cX12_runs 116 = .ok (.iadd, 1) := by decide +kernel
theorem dX12_runs_117 : decode cX12_runs 117 = .ok (.istore 7, 2) := by decide +kernel
theorem dX12_runs_119 : decode cX12_runs 119 = .ok (.iload 5, 2) := by decide +kernel
theorem dX12_runs_121 : decode cX12_runs 121 = .ok (.aload_n 0, 1) := by decide +kernel
theorem dX12_runs_122 : decode cX12_runs 122 = .ok (.aload_n 0, 1) := by decide +kernel
theorem dX12_runs_123 : decode cX12_runs 123 = .ok (.getfield 115, 3) := by decide +kernel
theorem dX12_runs_126 : decode cX12_runs 126 = .ok (.iload 7, 2) := by decide +kernel
theorem dX12_runs_128 : decode cX12_runs 128 = .ok (.iaload, 1) := by decide +kernel
theorem dX12_runs_129 : decode cX12_runs 129 = .ok (.aload_n 0, 1) := by decide +kernel
theorem dX12_runs_130 : decode cX12_runs 130 = .ok (.getfield 115, 3) := by decide +kernel
theorem dX12_runs_133 : decode cX12_runs 133 = .ok (.iload 7, 2) := by decide +kernel
theorem dX12_runs_135 : decode cX12_runs 135 = .ok (.iconst 1, 1) := by decide +kernel
theorem dX12_runs_136 : decode cX12_runs 136 = .ok (.iadd, 1) := by decide +kernel
theorem dX12_runs_137 : decode cX12_runs 137 = .ok (.iaload, 1) := by decide +kernel
theorem dX12_runs_138 : decode cX12_runs 138 = .ok (.aload_n 0, 1) := by decide +kernel
theorem dX12_runs_139 : decode cX12_runs 139 = .ok (.getfield 115, 3) := by decide +kernel
theorem dX12_runs_142 : decode cX12_runs 142 = .ok (.iload 7, 2) := by decide +kernel
theorem dX12_runs_144 : decode cX12_runs 144 = .ok (.iconst 2, 1) := by decide +kernel
theorem dX12_runs_145 : decode cX12_runs 145 = .ok (.iadd, 1) := by decide +kernel
theorem dX12_runs_146 : decode cX12_runs 146 = .ok (.iaload, 1) := by decide +kernel
theorem dX12_runs_147 : decode cX12_runs 147 = .ok (.invokevirtual 436, 3) := by decide +kernel
theorem dX12_runs_150 : decode cX12_runs 150 = .ok (.ifCond .lt 7, 3) := by decide +kernel
theorem dX12_runs_153 : decode cX12_runs 153 = .ok (.iconst 1, 1) := by decide +kernel
theorem dX12_runs_154 : decode cX12_runs 154 = .ok (.goto 4, 3) := by decide +kernel
theorem dX12_runs_157 : decode cX12_runs 157 = .ok (.iconst 0, 1) := by decide +kernel
theorem dX12_runs_158 : decode cX12_runs 158 = .ok (.iadd, 1) := by decide +kernel
theorem dX12_runs_159 : decode cX12_runs 159 = .ok (.istore 5, 2) := by decide +kernel
theorem dX12_runs_161 : decode cX12_runs 161 = .ok (.iinc 6 1, 3) := by decide +kernel
theorem dX12_runs_164 : decode cX12_runs 164 = .ok (.goto (-89), 3) := by decide +kernel
theorem dX12_runs_167 : decode cX12_runs 167 = .ok (.iload 5, 2) := by decide +kernel
theorem dX12_runs_169 : decode cX12_runs 169 = .ok (.ireturn, 1) := by decide +kernel
theorem dX12_over_0 : decode cX12_over 0 = .ok (.iload_n 0, 1) := by decide +kernel
theorem dX12_over_1 : decode cX12_over 1 = .ok (.ifCond .ne 7, 3) := by decide +kernel
theorem dX12_over_4 : decode cX12_over 4 = .ok (.iconst (-1), 1) := by decide +kernel
theorem dX12_over_5 : decode cX12_over 5 = .ok (.goto 22, 3) := by decide +kernel
theorem dX12_over_8 : decode cX12_over 8 = .ok (.iload_n 0, 1) := by decide +kernel
theorem dX12_over_9 : decode cX12_over 9 = .ok (.iconst 4, 1) := by decide +kernel
theorem dX12_over_10 : decode cX12_over 10 = .ok (.if_icmp .ne 7, 3) := by decide +kernel
theorem dX12_over_13 : decode cX12_over 13 = .ok (.iconst 2, 1) := by decide +kernel
theorem dX12_over_14 : decode cX12_over 14 = .ok (.goto 13, 3) := by decide +kernel
theorem dX12_over_17 : decode cX12_over 17 = .ok (.iload_n 0, 1) := by decide +kernel
theorem dX12_over_18 : decode cX12_over 18 = .ok (.iconst 5, 1) := by decide +kernel
theorem dX12_over_19 : decode cX12_over 19 = .ok (.if_icmp .ne 7, 3) := by decide +kernel
theorem dX12_over_22 : decode cX12_over 22 = .ok (.iconst 4, 1) := by decide +kernel
theorem dX12_over_23 : decode cX12_over 23 = .ok (.goto 4, 3) := by decide +kernel
theorem dX12_over_26 : decode cX12_over 26 = .ok (.iconst 0, 1) := by decide +kernel
theorem dX12_over_27 : decode cX12_over 27 = .ok (.ireturn, 1) := by decide +kernel
theorem dX12_taken_0 : decode cX12_taken 0 = .ok (.iload_n 2, 1) := by decide +kernel
theorem dX12_taken_1 : decode cX12_taken 1 = .ok (.i2l, 1) := by decide +kernel
theorem dX12_taken_2 : decode cX12_taken 2 = .ok (.lconst 0, 1) := by decide +kernel
theorem dX12_taken_3 : decode cX12_taken 3 = .ok (.ldc2_w 216, 3) := by decide +kernel
theorem dX12_taken_6 : decode cX12_taken 6 = .ok (.invokestatic 142, 3) := by decide +kernel
theorem dX12_taken_9 : decode cX12_taken 9 = .ok (.ifCond .ne 6, 3) := by decide +kernel
theorem dX12_taken_12 : decode cX12_taken 12 = .ok (.bipush (-2), 2) := by decide +kernel
theorem dX12_taken_14 : decode cX12_taken 14 = .ok (.ireturn, 1) := by decide +kernel
theorem dX12_taken_15 : decode cX12_taken 15 = .ok (.aload_n 0, 1) := by decide +kernel
theorem dX12_taken_16 : decode cX12_taken 16 = .ok (.iload_n 1, 1) := by decide +kernel
theorem dX12_taken_17 : decode cX12_taken 17 = .ok (.invokevirtual 218, 3) := by decide +kernel
theorem dX12_taken_20 : decode cX12_taken 20 = .ok (.ifCond .ne 6, 3) := by decide +kernel
theorem dX12_taken_23 : decode cX12_taken 23 = .ok (.bipush (-11), 2) := by decide +kernel
theorem dX12_taken_25 : decode cX12_taken 25 = .ok (.ireturn, 1) := by decide +kernel
theorem dX12_taken_26 : decode cX12_taken 26 = .ok (.aload_n 0, 1) := by decide +kernel
theorem dX12_taken_27 : decode cX12_taken 27 = .ok (.getfield 69, 3) := by decide +kernel
theorem dX12_taken_30 : decode cX12_taken 30 = .ok (.iload_n 1, 1) := by decide +kernel
theorem dX12_taken_31 : decode cX12_taken 31 = .ok (.iaload, 1) := by decide +kernel
theorem dX12_taken_32 : decode cX12_taken 32 = .ok (.istore_n 3, 1) := by decide +kernel
theorem dX12_taken_33 : decode cX12_taken 33 = .ok (.iload_n 3, 1) := by decide +kernel
theorem dX12_taken_34 : decode cX12_taken 34 = .ok (.iconst (-1), 1) := by decide +kernel
theorem dX12_taken_35 : decode cX12_taken 35 = .ok (.if_icmp .eq 16, 3) := by decide +kernel
theorem dX12_taken_38 : decode cX12_taken 38 = .ok (.iload_n 3, 1) := by decide +kernel
theorem dX12_taken_39 : decode cX12_taken 39 = .ok (.iload_n 2, 1) := by decide +kernel
theorem dX12_taken_40 : decode cX12_taken 40 = .ok (.if_icmp .eq 11, 3) := by decide +kernel
theorem dX12_taken_43 : decode cX12_taken 43 = .ok (.iload_n 3, 1) := by decide +kernel
theorem dX12_taken_44 : decode cX12_taken 44 = .ok (.invokestatic 440, 3) := by decide +kernel
theorem dX12_taken_47 : decode cX12_taken 47 = .ok (.istore_n 3, 1) := by decide +kernel
theorem dX12_taken_48 : decode cX12_taken 48 = .ok (.goto (-15), 3) := by decide +kernel
theorem dX12_taken_51 : decode cX12_taken 51 = .ok (.iload_n 3, 1) := by decide +kernel
theorem dX12_taken_52 : decode cX12_taken 52 = .ok (.iload_n 2, 1) := by decide +kernel
theorem dX12_taken_53 : decode cX12_taken 53 = .ok (.if_icmp .ne 12, 3) := by decide +kernel
theorem dX12_taken_56 : decode cX12_taken 56 = .ok (.aload_n 0, 1) := by decide +kernel
theorem dX12_taken_57 : decode cX12_taken 57 = .ok (.getfield 72, 3) := by decide +kernel
theorem dX12_taken_60 : decode cX12_taken 60 = .ok (.iload_n 1, 1) := by decide +kernel
theorem dX12_taken_61 : decode cX12_taken 61 = .ok (.iaload, 1) := by decide +kernel
theorem dX12_taken_62 : decode cX12_taken 62 = .ok (.goto 5, 3) := by decide +kernel
theorem dX12_taken_65 : decode cX12_taken 65 = .ok (.bipush (-13), 2) := by decide +kernel
theorem dX12_taken_67 : decode cX12_taken 67 = .ok (.ireturn, 1) := by decide +kernel
